theorem dX3_add_18 : decode cX3_add 18 = .ok (.iconst (-1), 1) := by decide +kernel
theorem dX3_add_19 : decode cX3_add 19 = .ok (.ireturn, 1) := by decide +kernel
theorem dX3_add_20 : decode cX3_add 20 = .ok (.aload_n 0, 1) := by decide +kernel
theorem dX3_add_21 : decode cX3_add 21 = .ok (.getfield 46, 3) := by decide +kernel
theorem dX3_add_24 : decode cX3_add 24 = .ok (.istore_n 2, 1) := by decide +kernel
theorem dX3_add_25 : decode cX3_add 25 = .ok (.aload_n 0, 1) := by decide +kernel
theorem dX3_add_26 : decode cX3_add 26 = .ok (.getfield 33, 3) := by decide +kernel
theorem dX3_add_29 : decode cX3_add 29 = .ok (.iload_n 2, 1) := by decide +kernel
theorem dX3_add_30 : decode cX3_add 30 = .ok (.aload_n 1, 1) := by decide +kernel
theorem dX3_add_31 : decode cX3_add 31 = .ok (.aastore, 1) := by decide +kernel
theorem dX3_add_32 : decode cX3_add 32 = .ok (.aload_n 0, 1) := by decide +kernel
theorem dX3_add_33 : decode cX3_add 33 = .ok (.getfield 28, 3) := by decide +kernel
theorem dX3_add_36 : decode cX3_add 36 = .ok (.aload_n 0, 1) := by decide +kernel
theorem dX3_add_37 : decode cX3_add 37 = .ok (.getfield 43, 3) := by decide +kernel
theorem dX3_add_40 : decode cX3_add 40 = .ok (.iload_n 2, 1) := by decide +kernel
theorem dX3_add_41 : decode cX3_add 41 = .ok (.iastore, 1) := by decide +kernel
theorem dX3_add_42 : decode cX3_add 42 = .ok (.aload_n 0, 1) := by decide +kernel
theorem dX3_add_43 : decode cX3_add 43 = .ok (.dup, 1) := by decide +kernel
theorem dX3_add_44 : decode cX3_add 44 = .ok (.getfield 46, 3) := by decide +kernel
theorem dX3_add_47 : decode cX3_add 47 = .ok (.iconst 1, 1) := by decide +kernel
theorem dX3_add_48 : decode cX3_add 48 = .ok (.iadd, 1) := by decide +kernel
theorem dX3_add_49 : decode cX3_add 49 = .ok (.putfield 46, 3) := by decide +kernel
theorem dX3_add_52 : decode cX3_add 52 = .ok (.aload_n 0, 1) := by decide +kernel
theorem dX3_add_53 : decode cX3_add 53 = .ok (.dup, 1) := by decide +kernel
theorem dX3_add_54 : decode cX3_add 54 = .ok (.getfield 43, 3) := by decide +kernel
theorem dX3_add_57 : decode cX3_add 57 = .ok (.iconst 1, 1) := by decide +kernel
theorem dX3_add_58 : decode cX3_add 58 = .ok (.iadd, 1) := by decide +kernel
theorem dX3_add_59 : decode cX3_add 59 = .ok (.putfield 43, 3) := by decide +kernel
theorem dX3_add_62 : decode cX3_add 62 = .ok (.iload_n 2, 1) := by decide +kernel
theorem dX3_add_63 : decode cX3_add 63 = .ok (.ireturn, 1) := by decide +kernel
set_option maxRecDepth 20000 in
theorem ggX3_replace_X4_isWithin : GoodIn wsX3_replace wsX4_isWithin := goodIn_r _ [4] (by decide +kernel) (by decide +kernel)
set_option maxRecDepth 20000 in
theorem gX3_replace_X4_isWithin_n55 : GoodIn wsX3_replace (wsX4_isWithin) := ggX3_replace_X4_isWithin
theorem dX3_replace_0 : decode cX3_replace 0 = .ok (.iload_n 1, 1) := by decide +kernel
theorem dX3_replace_1 : decode cX3_replace 1 = .ok (.iconst 0, 1) := by decide +kernel
theorem dX3_replace_2 : decode cX3_replace 2 = .ok (.bipush 29, 2) := by decide +kernel
theorem dX3_replace_4 : decode cX3_replace 4 = .ok (.invokestatic 55, 3) := by decide +kernel
theorem dX3_replace_7 : decode cX3_replace 7 = .ok (.ifCond .eq 10, 3) := by decide +kernel
theorem dX3_replace_10 : decode cX3_replace 10 = .ok (.aload_n 0, 1) := by decide +kernel
theorem dX3_replace_11 : decode cX3_replace 11 = .ok (.getfield 33, 3) := by decide +kernel
theorem dX3_replace_14 : decode cX3_replace 14 = .ok (.iload_n 1, 1) := by decide +kernel
theorem dX3_replace_15 : decode cX3_replace 15 = .ok (.aload_n 2, 1) := by decide +kernel
theorem dX3_replace_16 : decode cX3_replace 16 = .ok (.aastore, 1) := by decide +kernel
theorem dX3_replace_17 : decode cX3_replace 17 = .ok (.return_, 1) := by decide +kernel
set_option maxRecDepth 20000 in
theorem ggX3_drop_X3_placeOf : GoodIn wsX3_drop wsX3_placeOf := goodIn_r _ [7, 1, 8, 9, 10, 6, 11, 2, 12, 13, 14, 20, 21, 22, 23, 24, 25, 26, 27, 28, 29, 30] (by decide +kernel) (by decide +kernel)
set_option maxRecDepth 20000 in
theorem gX3_drop_X3_placeOf : GoodIn wsX3_drop (wsV RX3 67 RX3 yX3_placeOf wsX3_placeOf) := goodIn_app (goodIn_of _ (by decide +kernel)) ggX3_drop_X3_placeOf
set_option maxRecDepth 20000 in
theorem ggX3_drop_X3_replace : GoodIn wsX3_drop wsX3_replace := goodIn_r _ [18, 19, 12, 13, 14, 20, 21, 22, 23, 24, 25, 26, 27, 28, 29, 30] (by decide +kernel) (by decide +kernel)
set_option maxRecDepth 20000 in
theorem gX3_drop_X3_replace : GoodIn wsX3_drop (wsV RX3 71 RX3 yX3_replace wsX3_replace) := goodIn_app (goodIn_of _ (by decide +kernel)) ggX3_drop_X3_replace
theorem dX3_drop_0 : decode cX3_drop 0 = .ok (.aload_n 0, 1) := by decide +kernel
theorem dX3_drop_1 : decode cX3_drop 1 = .ok (.iload_n 1, 1) := by decide +kernel
theorem dX3_drop_2 : decode cX3_drop 2 = .ok (.invokevirtual 67, 3) := by decide +kernel
theorem dX3_drop_5 : decode cX3_drop 5 = .ok (.istore_n 2, 1) := by decide +kernel
theorem dX3_drop_6 : decode cX3_drop 6 = .ok (.iload_n 2, 1) := by decide +kernel
theorem dX3_drop_7 : decode cX3_drop 7 = .ok (.iconst (-1), 1) := by decide +kernel
theorem dX3_drop_8 : decode cX3_drop 8 = .ok (.if_icmp .ne 4, 3) := by decide +kernel
theorem dX3_drop_11 : decode cX3_drop 11 = .ok (.return_, 1) := by decide +kernel
theorem dX3_drop_12 : decode cX3_drop 12 = .ok (.iload_n 2, 1) := by decide +kernel
theorem dX3_drop_13 : decode cX3_drop 13 = .ok (.iconst 1, 1) := by decide +kernel
theorem dX3_drop_14 : decode cX3_drop 14 = .ok (.iadd, 1) := by decide +kernel
theorem dX3_drop_15 : decode cX3_drop 15 = .ok (.istore_n 3, 1) := by decide +kernel
theorem dX3_drop_16 : decode cX3_drop 16 = .ok (.iload_n 3, 1) := by decide +kernel
theorem dX3_drop_17 : decode cX3_drop 17 = .ok (.aload_n 0, 1) := by decide +kernel
theorem dX3_drop_18 : decode cX3_drop 18 = .ok (.getfield 43, 3) := by decide +kernel
theorem dX3_drop_21 : decode cX3_drop 21 = .ok (.if_icmp .ge 23, 3) := by decide +kernel
theorem dX3_drop_24 : decode cX3_drop 24 = .ok (.aload_n 0, 1) := by decide +kernel
theorem dX3_drop_25 : decode cX3_drop 25 = .ok (.getfield 28, 3) := by decide +kernel
theorem dX3_drop_28 : decode cX3_drop 28 = .ok (.iload_n 3, 1) := by decide +kernel
theorem dX3_drop_29 : decode cX3_drop 29 = .ok (.iconst 1, 1) := by decide +kernel
theorem dX3_drop_30 : decode cX3_drop 30 = .ok (.isub, 1) := by decide +kernel
theorem dX3_drop_31 : decode cX3_drop 31 = .ok (.aload_n 0, 1) := by decide +kernel
theorem dX3_drop_32 : decode cX3_drop 32 = .ok (.getfield 28, 3) := by decide +kernel
theorem dX3_drop_35 : decode cX3_drop 35 = .ok (.iload_n 3, 1) := by decide +kernel
theorem dX3_drop_36 : decode cX3_drop 36 = .ok (.iaload, 1) := by decide +kernel
theorem dX3_drop_37 : decode cX3_drop 37 = .ok (.iastore, 1) := by decide +kernel
theorem dX3_drop_38 : decode cX3_drop 38 = .ok (.iinc 3 1, 3) := by decide +kernel
theorem dX3_drop_41 : decode cX3_drop 41 = .ok (.goto (-25), 3) := by decide +kernel
theorem dX3_drop_44 : decode cX3_drop 44 = .ok (.aload_n 0, 1) := by decide +kernel
theorem dX3_drop_45 : decode cX3_drop 45 = .ok (.dup, 1) := by decide +kernel
theorem dX3_drop_46 : decode cX3_drop 46 = .ok (.getfield 43, 3) := by decide +kernel
theorem dX3_drop_49 : decode cX3_drop 49 = .ok (.iconst 1, 1) := by decide +kernel
theorem dX3_drop_50 : decode cX3_drop 50 = .ok (.isub, 1) := by decide +kernel
theorem dX3_drop_51 : decode cX3_drop 51 = .ok (.putfield 43, 3) := by decide +kernel
theorem dX3_drop_54 : decode cX3_drop 54 = .ok (.aload_n 0, 1) := by decide +kernel
theorem dX3_drop_55 : decode cX3_drop 55 = .ok (.iload_n 1, 1) := by decide +kernel
theorem dX3_drop_56 : decode cX3_drop 56 = .ok (.aconst_null, 1) := by decide +kernel
theorem dX3_drop_57 : decode cX3_drop 57 = .ok (.invokevirtual 71, 3) := by decide +kernel
theorem dX3_drop_60 : decode cX3_drop 60 = .ok (.return_, 1) := by decide +kernel
set_option maxRecDepth 20000 in
theorem ggX3_numberAt_X4_isWithin : GoodIn wsX3_numberAt wsX4_isWithin := goodIn_r _ [4] (by decide +kernel) (by decide +kernel)
set_option maxRecDepth 20000 in
theorem gX3_numberAt_X4_isWithin_n55 : GoodIn wsX3_numberAt (wsX4_isWithin) := ggX3_numberAt_X4_isWithin
theorem dX3_numberAt_0 : decode cX3_numberAt 0 = .ok (.iload_n 1, 1) := by decide +kernel
theorem dX3_numberAt_1 : decode cX3_numberAt 1 = .ok (.iconst 0, 1) := by decide +kernel
theorem dX3_numberAt_2 : decode cX3_numberAt 2 = .ok (.bipush 29, 2) := by decide +kernel
theorem dX3_numberAt_4 : decode cX3_numberAt 4 = .ok (.invokestatic 55, 3) := by decide +kernel
theorem dX3_numberAt_7 : decode cX3_numberAt 7 = .ok (.ifCond .eq 12, 3) := by decide +kernel
theorem dX3_numberAt_10 : decode cX3_numberAt 10 = .ok (.aload_n 0, 1) := by decide +kernel
theorem dX3_numberAt_11 : decode cX3_numberAt 11 = .ok (.getfield 28, 3) := by decide +kernel
theorem dX3_numberAt_14 : decode cX3_numberAt 14 = .ok (.iload_n 1, 1) := by decide +kernel
theorem dX3_numberAt_15 : decode cX3_numberAt 15 = .ok (.iaload, 1) := by decide +kernel
theorem dX3_numberAt_16 : decode cX3_numberAt 16 = .ok (.goto 4, 3) := by decide +kernel
theorem dX3_numberAt_19 : decode cX3_numberAt 19 = .ok (.iconst (-1), 1) := by decide +kernel
theorem dX3_numberAt_20 : decode cX3_numberAt 20 = .ok (.ireturn, 1) := by decide +kernel
set_option maxRecDepth 20000 in
theorem ggX3_placeOf_X3_numberAt : GoodIn wsX3_placeOf wsX3_numberAt := goodIn_r _ [6, 7, 8, 9, 10, 11, 12, 13, 14, 15, 16, 17, 18, 19, 20, 21] (by decide +kernel) (by decide +kernel)
set_option maxRecDepth 20000 in
theorem gX3_placeOf_X3_numberAt : GoodIn wsX3_placeOf (wsV RX3 75 RX3 yX3_numberAt wsX3_numberAt) := goodIn_app (goodIn_of _ (by decide +kernel)) ggX3_placeOf_X3_numberAt
theorem dX3_placeOf_0 : decode cX3_placeOf 0 = .ok (.iconst 0, 1) := by decide +kernel
theorem dX3_placeOf_1 : decode cX3_placeOf 1 = .ok (.istore_n 2, 1) := by decide +kernel
theorem dX3_placeOf_2 : decode cX3_placeOf 2 = .ok (.iload_n 2, 1) := by decide +kernel
theorem dX3_placeOf_3 : decode cX3_placeOf 3 = .ok (.aload_n 0, 1) := by decide +kernel
theorem dX3_placeOf_4 : decode cX3_placeOf 4 = .ok (.getfield 43, 3) := by decide +kernel
theorem dX3_placeOf_7 : decode cX3_placeOf 7 = .ok (.if_icmp .ge 20, 3) := by decide +kernel
theorem dX3_placeOf_10 : decode cX3_placeOf 10 = .ok (.aload_n 0, 1) := by decide +kernel
theorem dX3_placeOf_11 : decode cX3_placeOf 11 = .ok (.iload_n 2, 1) := by decide +kernel
theorem dX3_placeOf_12 : decode cX3_placeOf 12 = .ok (.invokevirtual 75, 3) := by decide +kernel
theorem dX3_placeOf_15 : decode cX3_placeOf 15 = .ok (.iload_n 1, 1) := by decide +kernel
theorem dX3_placeOf_16 : decode cX3_placeOf 16 = .ok (.if_icmp .ne 5, 3) := by decide +kernel
theorem dX3_placeOf_19 : decode cX3_placeOf 19 = .ok (.iload_n 2, 1) := by decide +kernel
theorem dX3_placeOf_20 : decode cX3_placeOf 20 = .ok (.ireturn, 1) := by decide +kernel
theorem dX3_placeOf_21 : decode cX3_placeOf 21 = .ok (.iinc 2 1, 3) := by decide +kernel
theorem dX3_placeOf_24 : decode cX3_placeOf 24 = .ok (.goto (-22), 3) := by decide +kernel
theorem dX3_placeOf_27 : decode cX3_placeOf 27 = .ok (.iconst (-1), 1) := by decide +kernel
theorem dX3_placeOf_28 : decode cX3_placeOf 28 = .ok (.ireturn, 1) := by decide +kernel
set_option maxRecDepth 20000 in
theorem ggX3_swap_X3_placeOf : GoodIn wsX3_swap wsX3_placeOf := goodIn_r _ [7, 1, 8, 9, 10, 6, 11, 2, 12, 13, 14, 15, 16, 17, 18, 19, 20, 21, 22, 23, 24, 25] (by decide +kernel) (by decide +kernel)
set_option maxRecDepth 20000 in
theorem gX3_swap_X3_placeOf : GoodIn wsX3_swap (wsV RX3 67 RX3 yX3_placeOf wsX3_placeOf) := goodIn_app (goodIn_of _ (by decide +kernel)) ggX3_swap_X3_placeOf
set_option maxRecDepth 20000 in
theorem ggX3_swap_X4_isWithin : GoodIn wsX3_swap wsX4_isWithin := goodIn_r _ [14] (by decide +kernel) (by decide +kernel)
set_option maxRecDepth 20000 in
theorem gX3_swap_X4_isWithin_n55 : GoodIn wsX3_swap (wsX4_isWithin) := ggX3_swap_X4_isWithin
theorem dX3_swap_0 : decode cX3_swap 0 = .ok (.aload_n 0, 1) := by decide +kernel
theorem dX3_swap_1 : decode cX3_swap 1 = .ok (.iload_n 1, 1) := by decide +kernel
theorem dX3_swap_2 : decode cX3_swap 2 = .ok (.invokevirtual 67, 3) := by decide +kernel
theorem dX3_swap_5 : decode cX3_swap 5 = .ok (.istore_n 3, 1) := by decide +kernel
theorem dX3_swap_6 : decode cX3_swap 6 = .ok (.iload_n 3, 1) := by decide +kernel
theorem dX3_swap_7 : decode cX3_swap 7 = .ok (.iload_n 2, 1) := by decide +kernel
theorem dX3_swap_8 : decode cX3_swap 8 = .ok (.iadd, 1) := by decide +kernel
theorem dX3_swap_9 : decode cX3_swap 9 = .ok (.istore 4, 2) := by decide +kernel
theorem dX3_swap_11 : decode cX3_swap 11 = .ok (.iload_n 3, 1) := by decide +kernel
theorem dX3_swap_12 : decode cX3_swap 12 = .ok (.iconst (-1), 1) := by decide +kernel
theorem dX3_swap_13 : decode cX3_swap 13 = .ok (.if_icmp .eq 18, 3) := by decide +kernel
theorem dX3_swap_16 : decode cX3_swap 16 = .ok (.iload 4, 2) := by decide +kernel
theorem dX3_swap_18 : decode cX3_swap 18 = .ok (.iconst 0, 1) := by decide +kernel
theorem dX3_swap_19 : decode cX3_swap 19 = .ok (.aload_n 0, 1) := by decide +kernel
theorem dX3_swap_20 : decode cX3_swap 20 = .ok (.getfield 43, 3) := by decide +kernel
theorem dX3_swap_23 : decode cX3_swap 23 = .ok (.iconst 1, 1) := by decide +kernel
theorem dX3_swap_24 : decode cX3_swap 24 = .ok (.isub, 1) := by decide +kernel
theorem dX3_swap_25 : decode cX3_swap 25 = .ok (.invokestatic 55, 3) := by decide +kernel
theorem dX3_swap_28 : decode cX3_swap 28 = .ok (.ifCond .ne 5, 3) := by decide +kernel
theorem dX3_swap_31 : decode cX3_swap 31 = .ok (.iconst 0, 1) := by decide +kernel
theorem dX3_swap_32 : decode cX3_swap 32 = .ok (.ireturn, 1) := by decide +kernel
theorem dX3_swap_33 : decode cX3_swap 33 = .ok (.aload_n 0, 1) := by decide +kernel
theorem dX3_swap_34 : decode cX3_swap 34 = .ok (.getfield 28, 3) := by decide +kernel
theorem dX3_swap_37 : decode cX3_swap 37 = .ok (.iload_n 3, 1) := by decide +kernel
theorem dX3_swap_38 : decode cX3_swap 38 = .ok (.aload_n 0, 1) := by decide +kernel
theorem dX3_swap_39 : decode cX3_swap 39 = .ok (.getfield 28, 3) := by decide +kernel
theorem dX3_swap_42 : decode cX3_swap 42 = .ok (.iload 4, 2) := by decide +kernel
theorem dX3_swap_44 : decode cX3_swap 44 = .ok (.iaload, 1) := by decide +kernel
theorem dX3_swap_45 : decode cX3_swap 45 = .ok (.iastore, 1) := by decide +kernel
theorem dX3_swap_46 : decode cX3_swap 46 = .ok (.aload_n 0, 1) := by decide +kernel
theorem dX3_swap_47 : decode cX3_swap 47 = .ok (.getfield 28, 3) := by decide +kernel
theorem dX3_swap_50 : decode cX3_swap 50 = .ok (.iload 4, 2) := by decide +kernel
theorem dX3_swap_52 : decode cX3_swap 52 = .ok (.iload_n 1, 1) := by decide +kernel
theorem dX3_swap_53 : decode cX3_swap 53 = .ok (.iastore, 1) := by decide +kernel
theorem dX3_swap_54 : decode cX3_swap 54 = .ok (.iconst 1, 1) := by decide +kernel
theorem dX3_swap_55 : decode cX3_swap 55 = .ok (.ireturn, 1) := by decide +kernel
set_option maxRecDepth 20000 in
theorem ggX3_layRight_J7_fill_53178 : GoodIn wsX3_layRight wsJ7_fill_53178 := goodIn_r _ [7] (by decide +kernel) (by decide +kernel)
set_option maxRecDepth 20000 in
theorem gX3_layRight_J7_fill_53178 : GoodIn wsX3_layRight (va_wsS RX3 78 yJ7_fill_53178 wsJ7_fill_53178) := goodIn_app (goodIn_of _ (by decide +kernel)) ggX3_layRight_J7_fill_53178
theorem dX3_layRight_0 : decode cX3_layRight 0 = .ok (.aload_n 0, 1) := by decide +kernel
theorem dX3_layRight_1 : decode cX3_layRight 1 = .ok (.iconst 0, 1) := by decide +kernel
theorem dX3_layRight_2 : decode cX3_layRight 2 = .ok (.putfield 40, 3) := by decide +kernel
theorem dX3_layRight_5 : decode cX3_layRight 5 = .ok (.aload_n 0, 1) := by decide +kernel
theorem dX3_layRight_6 : decode cX3_layRight 6 = .ok (.getfield 22, 3) := by decide +kernel
theorem dX3_layRight_9 : decode cX3_layRight 9 = .ok (.iconst 0, 1) := by decide +kernel
theorem dX3_layRight_10 : decode cX3_layRight 10 = .ok (.invokestatic 78, 3) := by decide +kernel
theorem dX3_layRight_13 : decode cX3_layRight 13 = .ok (.aload_n 0, 1) := by decide +kernel
theorem dX3_layRight_14 : decode cX3_layRight 14 = .ok (.getfield 25, 3) := by decide +kernel
theorem dX3_layRight_17 : decode cX3_layRight 17 = .ok (.iconst 0, 1) := by decide +kernel
theorem dX3_layRight_18 : decode cX3_layRight 18 = .ok (.invokestatic 78, 3) := by decide +kernel
theorem dX3_layRight_21 : decode cX3_layRight 21 = .ok (.return_, 1) := by decide +kernel
set_option maxRecDepth 20000 in
theorem ggX3_isLighter_X3_darkness : GoodIn wsX3_isLighter wsX3_darkness := goodIn_r _ [5, 6, 7, 8, 9, 10, 11, 12, 13, 14, 15, 16, 17, 18, 19, 20] (by decide +kernel) (by decide +kernel)
set_option maxRecDepth 20000 in
theorem gX3_isLighter_X3_darkness : GoodIn wsX3_isLighter (wsV RX3 84 RX3 yX3_darkness wsX3_darkness) := goodIn_app (goodIn_of _ (by decide +kernel)) ggX3_isLighter_X3_darkness
theorem dX3_isLighter_0 : decode cX3_isLighter 0 = .ok (.aload_n 0, 1) := by decide +kernel
theorem dX3_isLighter_1 : decode cX3_isLighter 1 = .ok (.iload_n 1, 1) := by decide +kernel
theorem dX3_isLighter_2 : decode cX3_isLighter 2 = .ok (.invokevirtual 84, 3) := by decide +kernel
theorem dX3_isLighter_5 : decode cX3_isLighter 5 = .ok (.istore_n 3, 1) := by decide +kernel
theorem dX3_isLighter_6 : decode cX3_isLighter 6 = .ok (.aload_n 0, 1) := by decide +kernel
theorem dX3_isLighter_7 : decode cX3_isLighter 7 = .ok (.iload_n 2, 1) := by decide +kernel
theorem dX3_isLighter_8 : decode cX3_isLighter 8 = .ok (.invokevirtual 84, 3) := by decide +kernel
theorem dX3_isLighter_11 : decode cX3_isLighter 11 = .ok (.istore 4, 2) := by decide +kernel
theorem dX3_isLighter_13 : decode cX3_isLighter 13 = .ok (.iload_n 3, 1) := by decide +kernel
theorem dX3_isLighter_14 : decode cX3_isLighter 14 = .ok (.iload 4, 2) := by decide +kernel
theorem dX3_isLighter_16 : decode cX3_isLighter 16 = .ok (.if_icmp .lt 14, 3) := by decide +kernel
theorem dX3_isLighter_19 : decode cX3_isLighter 19 = .ok (.iload_n 3, 1) := by decide +kernel
theorem dX3_isLighter_20 : decode cX3_isLighter 20 = .ok (.iload 4, 2) := by decide +kernel
theorem dX3_isLighter_22 : decode cX3_isLighter 22 = .ok (.if_icmp .ne 12, 3) := by decide +kernel
theorem dX3_isLighter_25 : decode cX3_isLighter 25 = .ok (.iload_n 1, 1) := by decide +kernel
theorem dX3_isLighter_26 : decode cX3_isLighter 26 = .ok (.iload_n 2, 1) := by decide +kernel
theorem dX3_isLighter_27 : decode cX3_isLighter 27 = .ok (.if_icmp .ge 7, 3) := by decide +kernel
theorem dX3_isLighter_30 : decode cX3_isLighter 30 = .ok (.iconst 1, 1) := by decide +kernel
theorem dX3_isLighter_31 : decode cX3_isLighter 31 = .ok (.goto 4, 3) := by decide +kernel
theorem dX3_isLighter_34 : decode cX3_isLighter 34 = .ok (.iconst 0, 1) := by decide +kernel
theorem dX3_isLighter_35 : decode cX3_isLighter 35 = .ok (.ireturn, 1) := by decide +kernel
set_option maxRecDepth 20000 in
theorem ggX3_darkerThan_X3_isLighter : GoodIn wsX3_darkerThan wsX3_isLighter := goodIn_r _ [5, 6, 7, 8, 4, 9, 10, 11, 12, 13, 14, 15, 16, 17, 18, 19, 20, 21, 22, 23, 24] (by decide +kernel) (by decide +kernel)
set_option maxRecDepth 20000 in
theorem gX3_darkerThan_X3_isLighter : GoodIn wsX3_darkerThan (wsV RX3 87 RX3 yX3_isLighter wsX3_isLighter) := goodIn_app (goodIn_of _ (by decide +kernel)) ggX3_darkerThan_X3_isLighter
theorem dX3_darkerThan_0 : decode cX3_darkerThan 0 = .ok (.iconst 0, 1) := by decide +kernel
theorem dX3_darkerThan_1 : decode cX3_darkerThan 1 = .ok (.istore_n 2, 1) := by decide +kernel
theorem dX3_darkerThan_2 : decode cX3_darkerThan 2 = .ok (.iconst 0, 1) := by decide +kernel
theorem dX3_darkerThan_3 : decode cX3_darkerThan 3 = .ok (.istore_n 3, 1) := by decide +kernel
theorem dX3_darkerThan_4 : decode cX3_darkerThan 4 = .ok (.iload_n 3, 1) := by decide +kernel
theorem dX3_darkerThan_5 : decode cX3_darkerThan 5 = .ok (.bipush 16, 2) := by decide +kernel
theorem dX3_darkerThan_7 : decode cX3_darkerThan 7 = .ok (.if_icmp .ge 24, 3) := by decide +kernel
theorem dX3_darkerThan_10 : decode cX3_darkerThan 10 = .ok (.aload_n 0, 1) := by decide +kernel
theorem dX3_darkerThan_11 : decode cX3_darkerThan 11 = .ok (.iload_n 1, 1) := by decide +kernel
theorem dX3_darkerThan_12 : decode cX3_darkerThan 12 = .ok (.iload_n 3, 1) := by decide +kernel
theorem dX3_darkerThan_13 : decode cX3_darkerThan 13 = .ok (.invokevirtual 87, 3) := by decide +kernel
theorem dX3_darkerThan_16 : decode cX3_darkerThan 16 = .ok (.ifCond .eq 9, 3) := by decide +kernel
theorem dX3_darkerThan_19 : decode cX3_darkerThan 19 = .ok (.iload_n 2, 1) := by decide +kernel
theorem dX3_darkerThan_20 : decode cX3_darkerThan 20 = .ok (.iconst 1, 1) := by decide +kernel
theorem dX3_darkerThan_21 : decode cX3_darkerThan 21 = .ok (.iload_n 3, 1) := by decide +kernel
theorem dX3_darkerThan_22 : decode cX3_darkerThan 22 = .ok (.ishl, 1) := by decide +kernel
theorem dX3_darkerThan_23 : decode cX3_darkerThan 23 = .ok (.ior, 1) := by decide +kernel
theorem dX3_darkerThan_24 : decode cX3_darkerThan 24 = .ok (.istore_n 2, 1) := by decide +kernel
theorem dX3_darkerThan_25 : decode cX3_darkerThan 25 = .ok (.iinc 3 1, 3) := by decide +kernel
theorem dX3_darkerThan_28 : decode cX3_darkerThan 28 = .ok (.goto (-24), 3) := by decide +kernel
theorem dX3_darkerThan_31 : decode cX3_darkerThan 31 = .ok (.iload_n 2, 1) := by decide +kernel
theorem dX3_darkerThan_32 : decode cX3_darkerThan 32 = .ok (.ireturn, 1) := by decide +kernel
set_option maxRecDepth 20000 in
theorem ggX3_darkness_X4_hasInk : GoodIn wsX3_darkness wsX4_hasInk := goodIn_r _ [4] (by decide +kernel) (by decide +kernel)
set_option maxRecDepth 20000 in
theorem gX3_darkness_X4_hasInk_n91 : GoodIn wsX3_darkness (wsX4_hasInk) := ggX3_darkness_X4_hasInk
theorem dX3_darkness_0 : decode cX3_darkness 0 = .ok (.iconst 0, 1) := by decide +kernel
theorem dX3_darkness_1 : decode cX3_darkness 1 = .ok (.istore_n 2, 1) := by decide +kernel
theorem dX3_darkness_2 : decode cX3_darkness 2 = .ok (.iconst 0, 1) := by decide +kernel
theorem dX3_darkness_3 : decode cX3_darkness 3 = .ok (.istore_n 3, 1) := by decide +kernel
theorem dX3_darkness_4 : decode cX3_darkness 4 = .ok (.iload_n 3, 1) := by decide +kernel
theorem dX3_darkness_5 : decode cX3_darkness 5 = .ok (.iconst 4, 1) := by decide +kernel
theorem dX3_darkness_6 : decode cX3_darkness 6 = .ok (.if_icmp .ge 26, 3) := by decide +kernel
theorem dX3_darkness_9 : decode cX3_darkness 9 = .ok (.iload_n 1, 1) := by decide +kernel
theorem dX3_darkness_10 : decode cX3_darkness 10 = .ok (.iload_n 3, 1) := by decide +kernel
theorem dX3_darkness_11 : decode cX3_darkness 11 = .ok (.invokestatic 91, 3) := by decide +kernel
theorem dX3_darkness_14 : decode cX3_darkness 14 = .ok (.ifCond .eq 12, 3) := by decide +kernel
theorem dX3_darkness_17 : decode cX3_darkness 17 = .ok (.iload_n 2, 1) := by decide +kernel
theorem dX3_darkness_18 : decode cX3_darkness 18 = .ok (.aload_n 0, 1) := by decide +kernel
theorem dX3_darkness_19 : decode cX3_darkness 19 = .ok (.getfield 18, 3) := by decide +kernel
theorem dX3_darkness_22 : decode cX3_darkness 22 = .ok (.iload_n 3, 1) := by decide +kernel
theorem dX3_darkness_23 : decode cX3_darkness 23 = .ok (.iaload, 1) := by decide +kernel
theorem dX3_darkness_24 : decode cX3_darkness 24 = .ok (.iadd, 1) := by decide +kernel
theorem dX3_darkness_25 : decode cX3_darkness 25 = .ok (.istore_n 2, 1) := by decide +kernel
theorem dX3_darkness_26 : decode cX3_darkness 26 = .ok (.iinc 3 1, 3) := by decide +kernel
theorem dX3_darkness_29 : decode cX3_darkness 29 = .ok (.goto (-25), 3) := by decide +kernel
theorem dX3_darkness_32 : decode cX3_darkness 32 = .ok (.iload_n 2, 1) := by decide +kernel
theorem dX3_darkness_33 : decode cX3_darkness 33 = .ok (.ireturn, 1) := by decide +kernel
theorem dX3_offColumns_0 : decode cX3_offColumns 0 = .ok (.aload_n 0, 1) := by decide +kernel
theorem dX3_offColumns_1 : decode cX3_offColumns 1 = .ok (.getfield 25, 3) := by decide +kernel
theorem dX3_offColumns_4 : decode cX3_offColumns 4 = .ok (.iload_n 1, 1) := by decide +kernel
theorem dX3_offColumns_5 : decode cX3_offColumns 5 = .ok (.iaload, 1) := by decide +kernel
theorem dX3_offColumns_6 : decode cX3_offColumns 6 = .ok (.iload_n 2, 1) := by decide +kernel
theorem dX3_offColumns_7 : decode cX3_offColumns 7 = .ok (.aload_n 0, 1) := by decide +kernel
theorem dX3_offColumns_8 : decode cX3_offColumns 8 = .ok (.getfield 40, 3) := by decide +kernel
theorem dX3_offColumns_11 : decode cX3_offColumns 11 = .ok (.imul, 1) := by decide +kernel
theorem dX3_offColumns_12 : decode cX3_offColumns 12 = .ok (.bipush 8, 2) := by decide +kernel
theorem dX3_offColumns_14 : decode cX3_offColumns 14 = .ok (.idiv, 1) := by decide +kernel
theorem dX3_offColumns_15 : decode cX3_offColumns 15 = .ok (.iadd, 1) := by decide +kernel
theorem dX3_offColumns_16 : decode cX3_offColumns 16 = .ok (.ireturn, 1) := by decide +kernel
set_option maxRecDepth 20000 in
theorem ggX3_reach_X3_offColumns : GoodIn wsX3_reach wsX3_offColumns := goodIn_r _ [14, 15, 16, 17, 18, 19, 20, 21, 22, 23, 24, 25, 26, 27] (by decide +kernel) (by decide +kernel)
set_option maxRecDepth 20000 in
theorem gX3_reach_X3_offColumns : GoodIn wsX3_reach (wsV RX3 103 RX3 yX3_offColumns wsX3_offColumns) := goodIn_app (goodIn_of _ (by decide +kernel)) ggX3_reach_X3_offColumns
theorem dX3_reach_0 : decode cX3_reach 0 = .ok (.iconst 0, 1) := by decide +kernel
theorem dX3_reach_1 : decode cX3_reach 1 = .ok (.istore_n 1, 1) := by decide +kernel
theorem dX3_reach_2 : decode cX3_reach 2 = .ok (.iconst 0, 1) := by decide +kernel
theorem dX3_reach_3 : decode cX3_reach 3 = .ok (.istore_n 2, 1) := by decide +kernel
theorem dX3_reach_4 : decode cX3_reach 4 = .ok (.iload_n 2, 1) := by decide +kernel
theorem dX3_reach_5 : decode cX3_reach 5 = .ok (.iconst 4, 1) := by decide +kernel
theorem dX3_reach_6 : decode cX3_reach 6 = .ok (.if_icmp .ge 53, 3) := by decide +kernel
theorem dX3_reach_9 : decode cX3_reach 9 = .ok (.iload_n 1, 1) := by decide +kernel
theorem dX3_reach_10 : decode cX3_reach 10 = .ok (.aload_n 0, 1) := by decide +kernel
theorem dX3_reach_11 : decode cX3_reach 11 = .ok (.getfield 22, 3) := by decide +kernel
theorem dX3_reach_14 : decode cX3_reach 14 = .ok (.iload_n 2, 1) := by decide +kernel
theorem dX3_reach_15 : decode cX3_reach 15 = .ok (.iaload, 1) := by decide +kernel
theorem dX3_reach_16 : decode cX3_reach 16 = .ok (.invokestatic 94, 3) := by decide +kernel
theorem dX3_reach_19 : decode cX3_reach 19 = .ok (.invokestatic 99, 3) := by decide +kernel
theorem dX3_reach_22 : decode cX3_reach 22 = .ok (.istore_n 1, 1) := by decide +kernel
theorem dX3_reach_23 : decode cX3_reach 23 = .ok (.iconst 0, 1) := by decide +kernel
theorem dX3_reach_24 : decode cX3_reach 24 = .ok (.istore_n 3, 1) := by decide +kernel
theorem dX3_reach_25 : decode cX3_reach 25 = .ok (.iload_n 3, 1) := by decide +kernel
theorem dX3_reach_26 : decode cX3_reach 26 = .ok (.aload_n 0, 1) := by decide +kernel
theorem dX3_reach_27 : decode cX3_reach 27 = .ok (.getfield 15, 3) := by decide +kernel
theorem dX3_reach_30 : decode cX3_reach 30 = .ok (.if_icmp .ge 23, 3) := by decide +kernel
theorem dX3_reach_33 : decode cX3_reach 33 = .ok (.iload_n 1, 1) := by decide +kernel
theorem dX3_reach_34 : decode cX3_reach 34 = .ok (.aload_n 0, 1) := by decide +kernel
theorem dX3_reach_35 : decode cX3_reach 35 = .ok (.iload_n 2, 1) := by decide +kernel
theorem dX3_reach_36 : decode cX3_reach 36 = .ok (.iload_n 3, 1) := by decide +kernel
theorem dX3_reach_37 : decode cX3_reach 37 = .ok (.invokevirtual 103, 3) := by decide +kernel
theorem dX3_reach_40 : decode cX3_reach 40 = .ok (.invokestatic 94, 3) := by decide +kernel
theorem dX3_reach_43 : decode cX3_reach 43 = .ok (.invokestatic 99, 3) := by decide +kernel
theorem dX3_reach_46 : decode cX3_reach 46 = .ok (.istore_n 1, 1) := by decide +kernel
theorem dX3_reach_47 : decode cX3_reach 47 = .ok (.iinc 3 1, 3) := by decide +kernel
theorem dX3_reach_50 : decode cX3_reach 50 = .ok (.goto (-25), 3) := by decide +kernel
theorem dX3_reach_53 : decode cX3_reach 53 = .ok (.iinc 2 1, 3) := by decide +kernel
theorem dX3_reach_56 : decode cX3_reach 56 = .ok (.goto (-52), 3) := by decide +kernel
theorem dX3_reach_59 : decode cX3_reach 59 = .ok (.iload_n 1, 1) := by decide +kernel
theorem dX3_reach_60 : decode cX3_reach 60 = .ok (.ireturn, 1) := by decide +kernel
set_option maxRecDepth 20000 in
theorem ggX4_init_X3_init : GoodIn wsX4_init wsX3_init := goodIn_r _ [15, 16, 2, 3, 17, 18, 19, 20, 21, 22, 23, 24, 25, 50, 51, 52, 53, 54, 55, 56, 57, 58, 59, 60] (by decide +kernel) (by decide +kernel)
set_option maxRecDepth 20000 in
theorem gX4_init_X3_init : GoodIn wsX4_init (wsX3_init) := ggX4_init_X3_init
set_option maxRecDepth 20000 in
theorem ggX4_init_X1_init : GoodIn wsX4_init wsX1_init := goodIn_r _ [28, 29, 2, 3, 19, 30, 31, 32, 33, 34, 35, 36, 37, 38, 39, 40, 41, 42, 43, 44, 45, 46, 47, 48, 49, 64, 65, 66, 67, 68, 69, 70, 71, 72] (by decide +kernel) (by decide +kernel)
set_option maxRecDepth 20000 in
theorem gX4_init_X1_init : GoodIn wsX4_init (wsX1_init) := ggX4_init_X1_init
theorem dX4_init_0 : decode cX4_init 0 = .ok (.aload_n 0, 1) := by decide +kernel
theorem dX4_init_1 : decode cX4_init 1 = .ok (.invokespecial 1, 3) := by decide +kernel
theorem dX4_init_4 : decode cX4_init 4 = .ok (.aload_n 0, 1) := by decide +kernel
theorem dX4_init_5 : decode cX4_init 5 = .ok (.new 7, 3) := by decide +kernel
theorem dX4_init_8 : decode cX4_init 8 = .ok (.dup, 1) := by decide +kernel
theorem dX4_init_9 : decode cX4_init 9 = .ok (.invokespecial 9, 3) := by decide +kernel
theorem dX4_init_12 : decode cX4_init 12 = .ok (.putfield 10, 3) := by decide +kernel
theorem dX4_init_15 : decode cX4_init 15 = .ok (.aload_n 0, 1) := by decide +kernel
theorem dX4_init_16 : decode cX4_init 16 = .ok (.new 16, 3) := by decide +kernel
theorem dX4_init_19 : decode cX4_init 19 = .ok (.dup, 1) := by decide +kernel
theorem dX4_init_20 : decode cX4_init 20 = .ok (.invokespecial 18, 3) := by decide +kernel
theorem dX4_init_23 : decode cX4_init 23 = .ok (.putfield 19, 3) := by decide +kernel
theorem dX4_init_26 : decode cX4_init 26 = .ok (.aload_n 0, 1) := by decide +kernel
theorem dX4_init_27 : decode cX4_init 27 = .ok (.iconst 4, 1) := by decide +kernel
theorem dX4_init_28 : decode cX4_init 28 = .ok (.anewarray 7, 3) := by decide +kernel
theorem dX4_init_31 : decode cX4_init 31 = .ok (.putfield 23, 3) := by decide +kernel
theorem dX4_init_34 : decode cX4_init 34 = .ok (.return_, 1) := by decide +kernel
set_option maxRecDepth 20000 in
theorem ggX4_page_X4_isWithin : GoodIn wsX4_page wsX4_isWithin := goodIn_r _ [8] (by decide +kernel) (by decide +kernel)
set_option maxRecDepth 20000 in
theorem gX4_page_X4_isWithin : GoodIn wsX4_page (va_wsS RX4 27 yX4_isWithin wsX4_isWithin) := goodIn_app (goodIn_of _ (by decide +kernel)) ggX4_page_X4_isWithin
set_option maxRecDepth 20000 in
theorem ggX4_page_X1_keepOnly : GoodIn wsX4_page wsX1_keepOnly := goodIn_r _ [13, 14, 15, 16, 17, 18, 33, 34, 35, 36, 37, 38, 39] (by decide +kernel) (by decide +kernel)
set_option maxRecDepth 20000 in
theorem gX4_page_X1_keepOnly : GoodIn wsX4_page (wsV RX4 38 RX1 yX1_keepOnly wsX1_keepOnly) := goodIn_app (goodIn_of _ (by decide +kernel)) ggX4_page_X1_keepOnly
theorem dX4_page_0 : decode cX4_page 0 = .ok (.iload_n 1, 1) := by decide +kernel
theorem dX4_page_1 : decode cX4_page 1 = .ok (.iconst 1, 1) := by decide +kernel
theorem dX4_page_2 : decode cX4_page 2 = .ok (.bipush 16, 2) := by decide +kernel
theorem dX4_page_4 : decode cX4_page 4 = .ok (.invokestatic 27, 3) := by decide +kernel
theorem dX4_page_7 : decode cX4_page 7 = .ok (.ifCond .eq 13, 3) := by decide +kernel
theorem dX4_page_10 : decode cX4_page 10 = .ok (.iload_n 2, 1) := by decide +kernel
theorem dX4_page_11 : decode cX4_page 11 = .ok (.iconst 1, 1) := by decide +kernel
theorem dX4_page_12 : decode cX4_page 12 = .ok (.bipush 16, 2) := by decide +kernel
theorem dX4_page_14 : decode cX4_page 14 = .ok (.invokestatic 27, 3) := by decide +kernel
theorem dX4_page_17 : decode cX4_page 17 = .ok (.ifCond .ne 5, 3) := by decide +kernel
theorem dX4_page_20 : decode cX4_page 20 = .ok (.iconst 0, 1) := by decide +kernel
theorem dX4_page_21 : decode cX4_page 21 = .ok (.ireturn, 1) := by decide +kernel
theorem dX4_page_22 : decode cX4_page 22 = .ok (.aload_n 0, 1) := by decide +kernel
theorem dX4_page_23 : decode cX4_page 23 = .ok (.getfield 10, 3) := by decide +kernel
theorem dX4_page_26 : decode cX4_page 26 = .ok (.iload_n 1, 1) := by decide +kernel
theorem dX4_page_27 : decode cX4_page 27 = .ok (.putfield 31, 3) := by decide +kernel
theorem dX4_page_30 : decode cX4_page 30 = .ok (.aload_n 0, 1) := by decide +kernel
theorem dX4_page_31 : decode cX4_page 31 = .ok (.getfield 10, 3) := by decide +kernel
theorem dX4_page_34 : decode cX4_page 34 = .ok (.iload_n 2, 1) := by decide +kernel
theorem dX4_page_35 : decode cX4_page 35 = .ok (.putfield 35, 3) := by decide +kernel
theorem dX4_page_38 : decode cX4_page 38 = .ok (.aload_n 0, 1) := by decide +kernel
theorem dX4_page_39 : decode cX4_page 39 = .ok (.getfield 19, 3) := by decide +kernel
theorem dX4_page_42 : decode cX4_page 42 = .ok (.iconst 0, 1) := by decide +kernel
theorem dX4_page_43 : decode cX4_page 43 = .ok (.invokevirtual 38, 3) := by decide +kernel
theorem dX4_page_46 : decode cX4_page 46 = .ok (.iconst 1, 1) := by decide +kernel
theorem dX4_page_47 : decode cX4_page 47 = .ok (.ireturn, 1) := by decide +kernel
set_option maxRecDepth 20000 in
theorem ggX4_weight_X4_isInk : GoodIn wsX4_weight wsX4_isInk := goodIn_r _ [7, 8, 9, 6, 10] (by decide +kernel) (by decide +kernel)
set_option maxRecDepth 20000 in
theorem gX4_weight_X4_isInk : GoodIn wsX4_weight (va_wsS RX4 42 yX4_isInk wsX4_isInk) := goodIn_app (goodIn_of _ (by decide +kernel)) ggX4_weight_X4_isInk
set_option maxRecDepth 20000 in
theorem ggX4_weight_X4_isWithin : GoodIn wsX4_weight wsX4_isWithin := goodIn_r _ [10] (by decide +kernel) (by decide +kernel)
set_option maxRecDepth 20000 in
theorem gX4_weight_X4_isWithin : GoodIn wsX4_weight (va_wsS RX4 27 yX4_isWithin wsX4_isWithin) := goodIn_app (goodIn_of _ (by decide +kernel)) ggX4_weight_X4_isWithin
set_option maxRecDepth 20000 in
theorem ggX4_weight_X1_keepOnly : GoodIn wsX4_weight wsX1_keepOnly := goodIn_r _ [15, 16, 17, 18, 19, 20, 35, 36, 37, 38, 39, 40, 41] (by decide +kernel) (by decide +kernel)
set_option maxRecDepth 20000 in
theorem gX4_weight_X1_keepOnly : GoodIn wsX4_weight (wsV RX4 38 RX1 yX1_keepOnly wsX1_keepOnly) := goodIn_app (goodIn_of _ (by decide +kernel)) ggX4_weight_X1_keepOnly
theorem dX4_weight_0 : decode cX4_weight 0 = .ok (.iload_n 1, 1) := by decide +kernel
theorem dX4_weight_1 : decode cX4_weight 1 = .ok (.invokestatic 42, 3) := by decide +kernel
theorem dX4_weight_4 : decode cX4_weight 4 = .ok (.ifCond .eq 13, 3) := by decide +kernel
theorem dX4_weight_7 : decode cX4_weight 7 = .ok (.iload_n 2, 1) := by decide +kernel
theorem dX4_weight_8 : decode cX4_weight 8 = .ok (.iconst 0, 1) := by decide +kernel
theorem dX4_weight_9 : decode cX4_weight 9 = .ok (.bipush 20, 2) := by decide +kernel
theorem dX4_weight_11 : decode cX4_weight 11 = .ok (.invokestatic 27, 3) := by decide +kernel
theorem dX4_weight_14 : decode cX4_weight 14 = .ok (.ifCond .ne 5, 3) := by decide +kernel
theorem dX4_weight_17 : decode cX4_weight 17 = .ok (.iconst 0, 1) := by decide +kernel
theorem dX4_weight_18 : decode cX4_weight 18 = .ok (.ireturn, 1) := by decide +kernel
theorem dX4_weight_19 : decode cX4_weight 19 = .ok (.aload_n 0, 1) := by decide +kernel
theorem dX4_weight_20 : decode cX4_weight 20 = .ok (.getfield 10, 3) := by decide +kernel
theorem dX4_weight_23 : decode cX4_weight 23 = .ok (.getfield 46, 3) := by decide +kernel
theorem dX4_weight_26 : decode cX4_weight 26 = .ok (.iload_n 1, 1) := by decide +kernel
theorem dX4_weight_27 : decode cX4_weight 27 = .ok (.iload_n 2, 1) := by decide +kernel
theorem dX4_weight_28 : decode cX4_weight 28 = .ok (.iastore, 1) := by decide +kernel
theorem dX4_weight_29 : decode cX4_weight 29 = .ok (.aload_n 0, 1) := by decide +kernel
theorem dX4_weight_30 : decode cX4_weight 30 = .ok (.getfield 19, 3) := by decide +kernel
theorem dX4_weight_33 : decode cX4_weight 33 = .ok (.iconst 1, 1) := by decide +kernel
theorem dX4_weight_34 : decode cX4_weight 34 = .ok (.invokevirtual 38, 3) := by decide +kernel
theorem dX4_weight_37 : decode cX4_weight 37 = .ok (.iconst 1, 1) := by decide +kernel
theorem dX4_weight_38 : decode cX4_weight 38 = .ok (.ireturn, 1) := by decide +kernel
set_option maxRecDepth 20000 in
theorem ggX4_shape_X4_isWithin : GoodIn wsX4_shape wsX4_isWithin := goodIn_r _ [9] (by decide +kernel) (by decide +kernel)
set_option maxRecDepth 20000 in
theorem gX4_shape_X4_isWithin : GoodIn wsX4_shape (va_wsS RX4 27 yX4_isWithin wsX4_isWithin) := goodIn_app (goodIn_of _ (by decide +kernel)) ggX4_shape_X4_isWithin
set_option maxRecDepth 20000 in
theorem ggX4_shape_X4_isColour : GoodIn wsX4_shape wsX4_isColour := goodIn_r _ [12, 6, 7, 8, 9] (by decide +kernel) (by decide +kernel)
set_option maxRecDepth 20000 in
theorem gX4_shape_X4_isColour : GoodIn wsX4_shape (va_wsS RX4 50 yX4_isColour wsX4_isColour) := goodIn_app (goodIn_of _ (by decide +kernel)) ggX4_shape_X4_isColour
set_option maxRecDepth 20000 in
theorem ggX4_shape_X4_isPlace : GoodIn wsX4_shape wsX4_isPlace := goodIn_r _ [15, 6, 7, 8, 9] (by decide +kernel) (by decide +kernel)
set_option maxRecDepth 20000 in
theorem gX4_shape_X4_isPlace : GoodIn wsX4_shape (va_wsS RX4 53 yX4_isPlace wsX4_isPlace) := goodIn_app (goodIn_of _ (by decide +kernel)) ggX4_shape_X4_isPlace
set_option maxRecDepth 20000 in
theorem ggX4_shape_X2_init : GoodIn wsX4_shape wsX2_init := goodIn_r _ [18, 19, 20, 21, 22, 23, 24, 25, 26, 27, 28, 51, 52, 53, 54, 55, 56, 57] (by decide +kernel) (by decide +kernel)
set_option maxRecDepth 20000 in
theorem gX4_shape_X2_init : GoodIn wsX4_shape (wsX2_init) := ggX4_shape_X2_init
set_option maxRecDepth 20000 in
theorem ggX4_shape_X3_add : GoodIn wsX4_shape wsX3_add := goodIn_r _ [33, 34, 35, 36, 37, 58, 59, 60, 61, 62, 63, 64, 65, 66, 67, 68] (by decide +kernel) (by decide +kernel)
set_option maxRecDepth 20000 in
theorem gX4_shape_X3_add : GoodIn wsX4_shape (wsV RX4 62 RX3 yX3_add wsX3_add) := goodIn_app (goodIn_of _ (by decide +kernel)) ggX4_shape_X3_add
set_option maxRecDepth 20000 in
theorem ggX4_shape_X1_keepOnly : GoodIn wsX4_shape wsX1_keepOnly := goodIn_r _ [42, 43, 44, 45, 46, 47, 69, 70, 71, 72, 73, 74, 75] (by decide +kernel) (by decide +kernel)
set_option maxRecDepth 20000 in
theorem gX4_shape_X1_keepOnly : GoodIn wsX4_shape (wsV RX4 38 RX1 yX1_keepOnly wsX1_keepOnly) := goodIn_app (goodIn_of _ (by decide +kernel)) ggX4_shape_X1_keepOnly
theorem dX4_shape_0 : decode cX4_shape 0 = .ok (.iload_n 1, 1) := by decide +kernel
theorem dX4_shape_1 : decode cX4_shape 1 = .ok (.iconst 0, 1) := by decide +kernel
theorem dX4_shape_2 : decode cX4_shape 2 = .ok (.iconst 3, 1) := by decide +kernel
theorem dX4_shape_3 : decode cX4_shape 3 = .ok (.invokestatic 27, 3) := by decide +kernel
theorem dX4_shape_6 : decode cX4_shape 6 = .ok (.ifCond .eq 15, 3) := by decide +kernel
theorem dX4_shape_9 : decode cX4_shape 9 = .ok (.iload 6, 2) := by decide +kernel
theorem dX4_shape_11 : decode cX4_shape 11 = .ok (.invokestatic 50, 3) := by decide +kernel
theorem dX4_shape_14 : decode cX4_shape 14 = .ok (.ifCond .eq 7, 3) := by decide +kernel
theorem dX4_shape_17 : decode cX4_shape 17 = .ok (.iconst 1, 1) := by decide +kernel
theorem dX4_shape_18 : decode cX4_shape 18 = .ok (.goto 4, 3) := by decide +kernel
theorem dX4_shape_21 : decode cX4_shape 21 = .ok (.iconst 0, 1) := by decide +kernel
theorem dX4_shape_22 : decode cX4_shape 22 = .ok (.istore 8, 2) := by decide +kernel
theorem dX4_shape_24 : decode cX4_shape 24 = .ok (.iload 4, 2) := by decide +kernel
theorem dX4_shape_26 : decode cX4_shape 26 = .ok (.iconst 1, 1) := by decide +kernel
theorem dX4_shape_27 : decode cX4_shape 27 = .ok (.bipush 32, 2) := by decide +kernel
theorem dX4_shape_29 : decode cX4_shape 29 = .ok (.invokestatic 27, 3) := by decide +kernel
theorem dX4_shape_32 : decode cX4_shape 32 = .ok (.ifCond .eq 18, 3) := by decide +kernel
theorem dX4_shape_35 : decode cX4_shape 35 = .ok (.iload 5, 2) := by decide +kernel
theorem dX4_shape_37 : decode cX4_shape 37 = .ok (.iconst 1, 1) := by decide +kernel
theorem dX4_shape_38 : decode cX4_shape 38 = .ok (.bipush 32, 2) := by decide +kernel
theorem dX4_shape_40 : decode cX4_shape 40 = .ok (.invokestatic 27, 3) := by decide +kernel
theorem dX4_shape_43 : decode cX4_shape 43 = .ok (.ifCond .eq 7, 3) := by decide +kernel
theorem dX4_shape_46 : decode cX4_shape 46 = .ok (.iconst 1, 1) := by decide +kernel
theorem dX4_shape_47 : decode cX4_shape 47 = .ok (.goto 4, 3) := by decide +kernel
theorem dX4_shape_50 : decode cX4_shape 50 = .ok (.iconst 0, 1) := by decide +kernel
theorem dX4_shape_51 : decode cX4_shape 51 = .ok (.istore 9, 2) := by decide +kernel
theorem dX4_shape_53 : decode cX4_shape 53 = .ok (.iload 8, 2) := by decide +kernel
theorem dX4_shape_55 : decode cX4_shape 55 = .ok (.ifCond .eq 16, 3) := by decide +kernel
theorem dX4_shape_58 : decode cX4_shape 58 = .ok (.iload 9, 2) := by decide +kernel
theorem dX4_shape_60 : decode cX4_shape 60 = .ok (.ifCond .eq 11, 3) := by decide +kernel
theorem dX4_shape_63 : decode cX4_shape 63 = .ok (.iload_n 2, 1) := by decide +kernel
theorem dX4_shape_64 : decode cX4_shape 64 = .ok (.iload_n 3, 1) := by decide +kernel
theorem dX4_shape_65 : decode cX4_shape 65 = .ok (.invokestatic 53, 3) := by decide +kernel
theorem dX4_shape_68 : decode cX4_shape 68 = .ok (.ifCond .ne 5, 3) := by decide +kernel
theorem dX4_shape_71 : decode cX4_shape 71 = .ok (.iconst (-1), 1) := by decide +kernel
theorem dX4_shape_72 : decode cX4_shape 72 = .ok (.ireturn, 1) := by decide +kernel
theorem dX4_shape_73 : decode cX4_shape 73 = .ok (.aload_n 0, 1) := by decide +kernel
theorem dX4_shape_74 : decode cX4_shape 74 = .ok (.getfield 10, 3) := by decide +kernel
theorem dX4_shape_77 : decode cX4_shape 77 = .ok (.new 57, 3) := by decide +kernel
theorem dX4_shape_80 : decode cX4_shape 80 = .ok (.dup, 1) := by decide +kernel
theorem dX4_shape_81 : decode cX4_shape 81 = .ok (.iload_n 1, 1) := by decide +kernel
theorem dX4_shape_82 : decode cX4_shape 82 = .ok (.iload_n 2, 1) := by decide +kernel
theorem dX4_shape_83 : decode cX4_shape 83 = .ok (.iload_n 3, 1) := by decide +kernel
theorem dX4_shape_84 : decode cX4_shape 84 = .ok (.iload 4, 2) := by decide +kernel
theorem dX4_shape_86 : decode cX4_shape 86 = .ok (.iload 5, 2) := by decide +kernel
theorem dX4_shape_88 : decode cX4_shape 88 = .ok (.iload 6, 2) := by decide +kernel
theorem dX4_shape_90 : decode cX4_shape 90 = .ok (.iload 7, 2) := by decide +kernel
theorem dX4_shape_92 : decode cX4_shape 92 = .ok (.invokespecial 59, 3) := by decide +kernel
theorem dX4_shape_95 : decode cX4_shape 95 = .ok (.invokevirtual 62, 3) := by decide +kernel
theorem dX4_shape_98 : decode cX4_shape 98 = .ok (.istore 10, 2) := by decide +kernel
theorem dX4_shape_100 : decode cX4_shape 100 = .ok (.aload_n 0, 1) := by decide +kernel
theorem dX4_shape_101 : decode cX4_shape 101 = .ok (.getfield 19, 3) := by decide +kernel
theorem dX4_shape_104 : decode cX4_shape 104 = .ok (.iconst 0, 1) := by decide +kernel
theorem dX4_shape_105 : decode cX4_shape 105 = .ok (.invokevirtual 38, 3) := by decide +kernel
theorem dX4_shape_108 : decode cX4_shape 108 = .ok (.iload 10, 2) := by decide +kernel
theorem dX4_shape_110 : decode cX4_shape 110 = .ok (.ireturn, 1) := by decide +kernel
set_option maxRecDepth 20000 in
theorem ggX4_take_X3_find : GoodIn wsX4_take wsX3_find := goodIn_r _ [7, 8, 9, 10, 11, 43, 44, 45, 46, 47, 48, 49, 50, 51, 52, 53] (by decide +kernel) (by decide +kernel)
set_option maxRecDepth 20000 in
theorem gX4_take_X3_find : GoodIn wsX4_take (wsV RX4 66 RX3 yX3_find wsX3_find) := goodIn_app (goodIn_of _ (by decide +kernel)) ggX4_take_X3_find
set_option maxRecDepth 20000 in
theorem ggX4_take_X3_drop : GoodIn wsX4_take wsX3_drop := goodIn_r _ [15, 16, 17, 18, 19, 20, 6, 21, 22, 23, 24, 25, 9, 10, 11, 26, 27, 28, 29, 8, 43, 44, 45, 46, 47, 48, 49, 50, 51, 52, 53] (by decide +kernel) (by decide +kernel)
set_option maxRecDepth 20000 in
theorem gX4_take_X3_drop : GoodIn wsX4_take (wsV RX4 70 RX3 yX3_drop wsX3_drop) := goodIn_app (goodIn_of _ (by decide +kernel)) ggX4_take_X3_drop
set_option maxRecDepth 20000 in
theorem ggX4_take_X1_keepOnly : GoodIn wsX4_take wsX1_keepOnly := goodIn_r _ [34, 35, 36, 37, 38, 39, 54, 55, 56, 57, 58, 59, 60] (by decide +kernel) (by decide +kernel)
set_option maxRecDepth 20000 in
theorem gX4_take_X1_keepOnly : GoodIn wsX4_take (wsV RX4 38 RX1 yX1_keepOnly wsX1_keepOnly) := goodIn_app (goodIn_of _ (by decide +kernel)) ggX4_take_X1_keepOnly
theorem dX4_take_0 : decode cX4_take 0 = .ok (.aload_n 0, 1) := by decide +kernel
theorem dX4_take_1 : decode cX4_take 1 = .ok (.getfield 10, 3) := by decide +kernel
theorem dX4_take_4 : decode cX4_take 4 = .ok (.iload_n 1, 1) := by decide +kernel
theorem dX4_take_5 : decode cX4_take 5 = .ok (.invokevirtual 66, 3) := by decide +kernel
theorem dX4_take_8 : decode cX4_take 8 = .ok (.ifnonnull 5, 3) := by decide +kernel
theorem dX4_take_11 : decode cX4_take 11 = .ok (.iconst 0, 1) := by decide +kernel
theorem dX4_take_12 : decode cX4_take 12 = .ok (.ireturn, 1) := by decide +kernel
theorem dX4_take_13 : decode cX4_take 13 = .ok (.aload_n 0, 1) := by decide +kernel
theorem dX4_take_14 : decode cX4_take 14 = .ok (.getfield 10, 3) := by decide +kernel
theorem dX4_take_17 : decode cX4_take 17 = .ok (.iload_n 1, 1) := by decide +kernel
theorem dX4_take_18 : decode cX4_take 18 = .ok (.invokevirtual 70, 3) := by decide +kernel
theorem dX4_take_21 : decode cX4_take 21 = .ok (.aload_n 0, 1) := by decide +kernel
theorem dX4_take_22 : decode cX4_take 22 = .ok (.getfield 19, 3) := by decide +kernel
theorem dX4_take_25 : decode cX4_take 25 = .ok (.iconst 0, 1) := by decide +kernel
theorem dX4_take_26 : decode cX4_take 26 = .ok (.invokevirtual 38, 3) := by decide +kernel
theorem dX4_take_29 : decode cX4_take 29 = .ok (.iconst 1, 1) := by decide +kernel
theorem dX4_take_30 : decode cX4_take 30 = .ok (.ireturn, 1) := by decide +kernel
set_option maxRecDepth 20000 in
theorem ggX4_move_X3_find : GoodIn wsX4_move wsX3_find := goodIn_r _ [7, 8, 9, 10, 11, 53, 54, 55, 56, 57, 58, 59, 60, 61, 62, 63] (by decide +kernel) (by decide +kernel)
set_option maxRecDepth 20000 in
theorem gX4_move_X3_find : GoodIn wsX4_move (wsV RX4 66 RX3 yX3_find wsX3_find) := goodIn_app (goodIn_of _ (by decide +kernel)) ggX4_move_X3_find
set_option maxRecDepth 20000 in
theorem ggX4_move_X4_isPlace : GoodIn wsX4_move wsX4_isPlace := goodIn_r _ [14, 15, 9, 10, 11] (by decide +kernel) (by decide +kernel)
set_option maxRecDepth 20000 in
theorem gX4_move_X4_isPlace : GoodIn wsX4_move (va_wsS RX4 53 yX4_isPlace wsX4_isPlace) := goodIn_app (goodIn_of _ (by decide +kernel)) ggX4_move_X4_isPlace
set_option maxRecDepth 20000 in
theorem ggX4_move_X2_movedTo : GoodIn wsX4_move wsX2_movedTo := goodIn_r _ [20, 21, 22, 19, 23, 24, 25, 26, 27, 28, 29, 30, 31, 32, 33, 34, 35, 64, 65, 66, 67, 68, 69, 70] (by decide +kernel) (by decide +kernel)
set_option maxRecDepth 20000 in
theorem gX4_move_X2_movedTo : GoodIn wsX4_move (wsV RX4 73 RX2 yX2_movedTo wsX2_movedTo) := goodIn_app (goodIn_of _ (by decide +kernel)) ggX4_move_X2_movedTo
set_option maxRecDepth 20000 in
theorem ggX4_move_X3_replace : GoodIn wsX4_move wsX3_replace := goodIn_r _ [39, 8, 9, 10, 11, 53, 54, 55, 56, 57, 58, 59, 60, 61, 62, 63] (by decide +kernel) (by decide +kernel)
set_option maxRecDepth 20000 in
theorem gX4_move_X3_replace : GoodIn wsX4_move (wsV RX4 77 RX3 yX3_replace wsX3_replace) := goodIn_app (goodIn_of _ (by decide +kernel)) ggX4_move_X3_replace
set_option maxRecDepth 20000 in
theorem ggX4_move_X1_keepOnly : GoodIn wsX4_move wsX1_keepOnly := goodIn_r _ [44, 45, 46, 47, 48, 49, 71, 72, 73, 74, 75, 76, 77] (by decide +kernel) (by decide +kernel)
set_option maxRecDepth 20000 in
theorem gX4_move_X1_keepOnly : GoodIn wsX4_move (wsV RX4 38 RX1 yX1_keepOnly wsX1_keepOnly) := goodIn_app (goodIn_of _ (by decide +kernel)) ggX4_move_X1_keepOnly
theorem dX4_move_0 : decode cX4_move 0 = .ok (.aload_n 0, 1) := by decide +kernel
theorem dX4_move_1 : decode cX4_move 1 = .ok (.getfield 10, 3) := by decide +kernel
theorem dX4_move_4 : decode cX4_move 4 = .ok (.iload_n 1, 1) := by decide +kernel
theorem dX4_move_5 : decode cX4_move 5 = .ok (.invokevirtual 66, 3) := by decide +kernel
theorem dX4_move_8 : decode cX4_move 8 = .ok (.astore 4, 2) := by decide +kernel
theorem dX4_move_10 : decode cX4_move 10 = .ok (.aload 4, 2) := by decide +kernel
theorem dX4_move_12 : decode cX4_move 12 = .ok (.ifnull 11, 3) := by decide +kernel
theorem dX4_move_15 : decode cX4_move 15 = .ok (.iload_n 2, 1) := by decide +kernel
theorem dX4_move_16 : decode cX4_move 16 = .ok (.iload_n 3, 1) := by decide +kernel
theorem dX4_move_17 : decode cX4_move 17 = .ok (.invokestatic 53, 3) := by decide +kernel
theorem dX4_move_20 : decode cX4_move 20 = .ok (.ifCond .ne 5, 3) := by decide +kernel
theorem dX4_move_23 : decode cX4_move 23 = .ok (.iconst 0, 1) := by decide +kernel
theorem dX4_move_24 : decode cX4_move 24 = .ok (.ireturn, 1) := by decide +kernel
theorem dX4_move_25 : decode cX4_move 25 = .ok (.aload_n 0, 1) := by decide +kernel
theorem dX4_move_26 : decode cX4_move 26 = .ok (.getfield 10, 3) := by decide +kernel
theorem dX4_move_29 : decode cX4_move 29 = .ok (.iload_n 1, 1) := by decide +kernel
theorem dX4_move_30 : decode cX4_move 30 = .ok (.aload 4, 2) := by decide +kernel
theorem dX4_move_32 : decode cX4_move 32 = .ok (.iload_n 2, 1) := by decide +kernel
theorem dX4_move_33 : decode cX4_move 33 = .ok (.iload_n 3, 1) := by decide +kernel
theorem dX4_move_34 : decode cX4_move 34 = .ok (.invokevirtual 73, 3) := by decide +kernel
theorem dX4_move_37 : decode cX4_move 37 = .ok (.invokevirtual 77, 3) := by decide +kernel
theorem dX4_move_40 : decode cX4_move 40 = .ok (.aload_n 0, 1) := by decide +kernel
theorem dX4_move_41 : decode cX4_move 41 = .ok (.getfield 19, 3) := by decide +kernel
theorem dX4_move_44 : decode cX4_move 44 = .ok (.iconst 0, 1) := by decide +kernel
theorem dX4_move_45 : decode cX4_move 45 = .ok (.invokevirtual 38, 3) := by decide +kernel
theorem dX4_move_48 : decode cX4_move 48 = .ok (.iconst 1, 1) := by decide +kernel
theorem dX4_move_49 : decode cX4_move 49 = .ok (.ireturn, 1) := by decide +kernel
set_option maxRecDepth 20000 in
theorem ggX4_lift_X3_find : GoodIn wsX4_lift wsX3_find := goodIn_r _ [7, 8, 9, 10, 11, 39, 40, 41, 42, 43, 44, 45, 46, 47, 48, 49] (by decide +kernel) (by decide +kernel)
set_option maxRecDepth 20000 in
theorem gX4_lift_X3_find : GoodIn wsX4_lift (wsV RX4 66 RX3 yX3_find wsX3_find) := goodIn_app (goodIn_of _ (by decide +kernel)) ggX4_lift_X3_find
set_option maxRecDepth 20000 in
theorem ggX4_lift_X3_swap : GoodIn wsX4_lift wsX3_swap := goodIn_r _ [15, 16, 17, 18, 19, 20, 6, 21, 22, 23, 24, 25, 9, 10, 11, 39, 40, 41, 42, 43, 44, 45, 46, 47, 48, 49] (by decide +kernel) (by decide +kernel)
set_option maxRecDepth 20000 in
theorem gX4_lift_X3_swap : GoodIn wsX4_lift (wsV RX4 81 RX3 yX3_swap wsX3_swap) := goodIn_app (goodIn_of _ (by decide +kernel)) ggX4_lift_X3_swap
set_option maxRecDepth 20000 in
theorem ggX4_lift_X1_keepOnly : GoodIn wsX4_lift wsX1_keepOnly := goodIn_r _ [30, 31, 32, 33, 34, 35, 50, 51, 52, 53, 54, 55, 56] (by decide +kernel) (by decide +kernel)
set_option maxRecDepth 20000 in
theorem gX4_lift_X1_keepOnly : GoodIn wsX4_lift (wsV RX4 38 RX1 yX1_keepOnly wsX1_keepOnly) := goodIn_app (goodIn_of _ (by decide +kernel)) ggX4_lift_X1_keepOnly
theorem dX4_lift_0 : decode cX4_lift 0 = .ok (.aload_n 0, 1) := by decide +kernel
theorem dX4_lift_1 : decode cX4_lift 1 = .ok (.getfield 10, 3) := by decide +kernel
theorem dX4_lift_4 : decode cX4_lift 4 = .ok (.iload_n 1, 1) := by decide +kernel
theorem dX4_lift_5 : decode cX4_lift 5 = .ok (.invokevirtual 66, 3) := by decide +kernel
theorem dX4_lift_8 : decode cX4_lift 8 = .ok (.ifnull 23, 3) := by decide +kernel
theorem dX4_lift_11 : decode cX4_lift 11 = .ok (.aload_n 0, 1) := by decide +kernel
theorem dX4_lift_12 : decode cX4_lift 12 = .ok (.getfield 10, 3) := by decide +kernel
theorem dX4_lift_15 : decode cX4_lift 15 = .ok (.iload_n 1, 1) := by decide +kernel
theorem dX4_lift_16 : decode cX4_lift 16 = .ok (.iload_n 2, 1) := by decide +kernel
theorem dX4_lift_17 : decode cX4_lift 17 = .ok (.ifCond .eq 7, 3) := by decide +kernel
theorem dX4_lift_20 : decode cX4_lift 20 = .ok (.iconst 1, 1) := by decide +kernel
theorem dX4_lift_21 : decode cX4_lift 21 = .ok (.goto 4, 3) := by decide +kernel
theorem dX4_lift_24 : decode cX4_lift 24 = .ok (.iconst (-1), 1) := by decide +kernel
theorem dX4_lift_25 : decode cX4_lift 25 = .ok (.invokevirtual 81, 3) := by decide +kernel
theorem dX4_lift_28 : decode cX4_lift 28 = .ok (.ifCond .ne 5, 3) := by decide +kernel
theorem dX4_lift_31 : decode cX4_lift 31 = .ok (.iconst 0, 1) := by decide +kernel
theorem dX4_lift_32 : decode cX4_lift 32 = .ok (.ireturn, 1) := by decide +kernel
theorem dX4_lift_33 : decode cX4_lift 33 = .ok (.aload_n 0, 1) := by decide +kernel
theorem dX4_lift_34 : decode cX4_lift 34 = .ok (.getfield 19, 3) := by decide +kernel
theorem dX4_lift_37 : decode cX4_lift 37 = .ok (.iconst 0, 1) := by decide +kernel
theorem dX4_lift_38 : decode cX4_lift 38 = .ok (.invokevirtual 38, 3) := by decide +kernel
theorem dX4_lift_41 : decode cX4_lift 41 = .ok (.iconst 1, 1) := by decide +kernel
theorem dX4_lift_42 : decode cX4_lift 42 = .ok (.ireturn, 1) := by decide +kernel
set_option maxRecDepth 20000 in
theorem ggX4_paint_X3_find : GoodIn wsX4_paint wsX3_find := goodIn_r _ [7, 8, 9, 10, 11, 53, 54, 55, 56, 57, 58, 59, 60, 61, 62, 63] (by decide +kernel) (by decide +kernel)
set_option maxRecDepth 20000 in
theorem gX4_paint_X3_find : GoodIn wsX4_paint (wsV RX4 66 RX3 yX3_find wsX3_find) := goodIn_app (goodIn_of _ (by decide +kernel)) ggX4_paint_X3_find
set_option maxRecDepth 20000 in
theorem ggX4_paint_X4_isColour : GoodIn wsX4_paint wsX4_isColour := goodIn_r _ [14, 15, 9, 10, 11] (by decide +kernel) (by decide +kernel)
set_option maxRecDepth 20000 in
theorem gX4_paint_X4_isColour : GoodIn wsX4_paint (va_wsS RX4 50 yX4_isColour wsX4_isColour) := goodIn_app (goodIn_of _ (by decide +kernel)) ggX4_paint_X4_isColour
set_option maxRecDepth 20000 in
theorem ggX4_paint_X2_painted : GoodIn wsX4_paint wsX2_painted := goodIn_r _ [20, 21, 22, 19, 23, 24, 25, 26, 27, 28, 29, 30, 31, 32, 33, 34, 35, 64, 65, 66, 67, 68, 69, 70] (by decide +kernel) (by decide +kernel)
set_option maxRecDepth 20000 in
theorem gX4_paint_X2_painted : GoodIn wsX4_paint (wsV RX4 84 RX2 yX2_painted wsX2_painted) := goodIn_app (goodIn_of _ (by decide +kernel)) ggX4_paint_X2_painted
set_option maxRecDepth 20000 in
theorem ggX4_paint_X3_replace : GoodIn wsX4_paint wsX3_replace := goodIn_r _ [39, 8, 9, 10, 11, 53, 54, 55, 56, 57, 58, 59, 60, 61, 62, 63] (by decide +kernel) (by decide +kernel)
set_option maxRecDepth 20000 in
theorem gX4_paint_X3_replace : GoodIn wsX4_paint (wsV RX4 77 RX3 yX3_replace wsX3_replace) := goodIn_app (goodIn_of _ (by decide +kernel)) ggX4_paint_X3_replace
set_option maxRecDepth 20000 in
theorem ggX4_paint_X1_keepOnly : GoodIn wsX4_paint wsX1_keepOnly := goodIn_r _ [44, 45, 46, 47, 48, 49, 71, 72, 73, 74, 75, 76, 77] (by decide +kernel) (by decide +kernel)
set_option maxRecDepth 20000 in
theorem gX4_paint_X1_keepOnly : GoodIn wsX4_paint (wsV RX4 38 RX1 yX1_keepOnly wsX1_keepOnly) := goodIn_app (goodIn_of _ (by decide +kernel)) ggX4_paint_X1_keepOnly
theorem dX4_paint_0 : decode cX4_paint 0 = .ok (.aload_n 0, 1) := by decide +kernel
theorem dX4_paint_1 : decode cX4_paint 1 = .ok (.getfield 10, 3) := by decide +kernel
theorem dX4_paint_4 : decode cX4_paint 4 = .ok (.iload_n 1, 1) := by decide +kernel
theorem dX4_paint_5 : decode cX4_paint 5 = .ok (.invokevirtual 66, 3) := by decide +kernel
theorem dX4_paint_8 : decode cX4_paint 8 = .ok (.astore 4, 2) := by decide +kernel
theorem dX4_paint_10 : decode cX4_paint 10 = .ok (.aload 4, 2) := by decide +kernel
theorem dX4_paint_12 : decode cX4_paint 12 = .ok (.ifnull 10, 3) := by decide +kernel
theorem dX4_paint_15 : decode cX4_paint 15 = .ok (.iload_n 2, 1) := by decide +kernel
theorem dX4_paint_16 : decode cX4_paint 16 = .ok (.invokestatic 50, 3) := by decide +kernel
theorem dX4_paint_19 : decode cX4_paint 19 = .ok (.ifCond .ne 5, 3) := by decide +kernel
theorem dX4_paint_22 : decode cX4_paint 22 = .ok (.iconst 0, 1) := by decide +kernel
theorem dX4_paint_23 : decode cX4_paint 23 = .ok (.ireturn, 1) := by decide +kernel
theorem dX4_paint_24 : decode cX4_paint 24 = .ok (.aload_n 0, 1) := by decide +kernel
theorem dX4_paint_25 : decode cX4_paint 25 = .ok (.getfield 10, 3) := by decide +kernel
theorem dX4_paint_28 : decode cX4_paint 28 = .ok (.iload_n 1, 1) := by decide +kernel
theorem dX4_paint_29 : decode cX4_paint 29 = .ok (.aload 4, 2) := by decide +kernel
theorem dX4_paint_31 : decode cX4_paint 31 = .ok (.iload_n 2, 1) := by decide +kernel
theorem dX4_paint_32 : decode cX4_paint 32 = .ok (.iload_n 3, 1) := by decide +kernel
theorem dX4_paint_33 : decode cX4_paint 33 = .ok (.invokevirtual 84, 3) := by decide +kernel
theorem dX4_paint_36 : decode cX4_paint 36 = .ok (.invokevirtual 77, 3) := by decide +kernel
theorem dX4_paint_39 : decode cX4_paint 39 = .ok (.aload_n 0, 1) := by decide +kernel
theorem dX4_paint_40 : decode cX4_paint 40 = .ok (.getfield 19, 3) := by decide +kernel
theorem dX4_paint_43 : decode cX4_paint 43 = .ok (.iconst 0, 1) := by decide +kernel
theorem dX4_paint_44 : decode cX4_paint 44 = .ok (.invokevirtual 38, 3) := by decide +kernel
theorem dX4_paint_47 : decode cX4_paint 47 = .ok (.iconst 1, 1) := by decide +kernel
theorem dX4_paint_48 : decode cX4_paint 48 = .ok (.ireturn, 1) := by decide +kernel
set_option maxRecDepth 20000 in
theorem ggX4_tell_X3_find : GoodIn wsX4_tell wsX3_find := goodIn_r _ [14, 15, 16, 17, 18, 191, 192, 193, 194, 195, 196, 197, 198, 199, 200, 201] (by decide +kernel) (by decide +kernel)
set_option maxRecDepth 20000 in
theorem gX4_tell_X3_find : GoodIn wsX4_tell (wsV RX4 66 RX3 yX3_find wsX3_find) := goodIn_app (goodIn_of _ (by decide +kernel)) ggX4_tell_X3_find
set_option maxRecDepth 20000 in
theorem ggX4_tell_X3_placeOf : GoodIn wsX4_tell wsX3_placeOf := goodIn_r _ [22, 23, 24, 25, 26, 13, 27, 28, 16, 17, 18, 191, 192, 193, 194, 195, 196, 197, 198, 199, 200, 201] (by decide +kernel) (by decide +kernel)
set_option maxRecDepth 20000 in
theorem gX4_tell_X3_placeOf : GoodIn wsX4_tell (wsV RX4 110 RX3 yX3_placeOf wsX3_placeOf) := goodIn_app (goodIn_of _ (by decide +kernel)) ggX4_tell_X3_placeOf
set_option maxRecDepth 20000 in
theorem ggX4_tell_X1_work : GoodIn wsX4_tell wsX1_work := goodIn_r _ [33, 34, 35, 36, 37, 32, 38, 39, 40, 41, 42, 43, 44, 45, 46, 47, 48, 49, 50, 51, 52, 53, 54, 55, 25, 26, 13, 27, 28, 16, 17, 18, 56, 11, 12, 14, 15, 57, 58, 59, 60, 61, 62, 63, 64, 65, 66, 67, 68, 69, 70, 71, 72, 73, 74, 75, 76, 77, 78, 79, 80, 81, 82, 83, 84, 85, 86, 87, 88, 89, 90, 91, 92, 93, 94, 95, 96, 97, 98, 99, 100, 101, 102, 103, 104, 105, 106, 107, 108, 109, 110, 111, 112, 113, 114, 115, 116, 117, 118, 119, 120, 121, 122, 123, 124, 125, 126, 127, 128, 129, 130, 131, 132, 133, 134, 135, 136, 137, 138, 139, 140, 141, 142, 143, 144, 145, 146, 147, 148, 149, 150, 151, 152, 153, 154, 155, 156, 157, 158, 159, 160, 161, 162, 163, 164, 165, 166, 167, 168, 169, 170, 171, 172, 173, 174, 175, 176, 202, 203, 204, 205, 206, 207, 208, 191, 192, 193, 194, 195, 196, 197, 198, 199, 200, 201, 209, 210, 184, 185, 186, 187, 188, 189, 190] (by decide +kernel) (by decide +kernel)
set_option maxRecDepth 20000 in
theorem gX4_tell_X1_work : GoodIn wsX4_tell (wsV RX4 114 RX1 yX1_work wsX1_work) := goodIn_app (goodIn_of _ (by decide +kernel)) ggX4_tell_X1_work
set_option maxRecDepth 20000 in
theorem ggX4_tell_X1_cellsOf : GoodIn wsX4_tell wsX1_cellsOf := goodIn_r _ [180, 39, 202, 203, 204, 205, 206, 207, 208] (by decide +kernel) (by decide +kernel)
set_option maxRecDepth 20000 in
theorem gX4_tell_X1_cellsOf : GoodIn wsX4_tell (wsV RX4 118 RX1 yX1_cellsOf wsX1_cellsOf) := goodIn_app (goodIn_of _ (by decide +kernel)) ggX4_tell_X1_cellsOf
theorem dX4_tell_0 : decode cX4_tell 0 = .ok (.aload_n 0, 1) := by decide +kernel
theorem dX4_tell_1 : decode cX4_tell 1 = .ok (.getfield 10, 3) := by decide +kernel
theorem dX4_tell_4 : decode cX4_tell 4 = .ok (.iload_n 1, 1) := by decide +kernel
theorem dX4_tell_5 : decode cX4_tell 5 = .ok (.invokevirtual 66, 3) := by decide +kernel
theorem dX4_tell_8 : decode cX4_tell 8 = .ok (.astore_n 3, 1) := by decide +kernel
theorem dX4_tell_9 : decode cX4_tell 9 = .ok (.aload_n 3, 1) := by decide +kernel
theorem dX4_tell_10 : decode cX4_tell 10 = .ok (.ifnonnull 5, 3) := by decide +kernel
theorem dX4_tell_13 : decode cX4_tell 13 = .ok (.iconst (-1), 1) := by decide +kernel
theorem dX4_tell_14 : decode cX4_tell 14 = .ok (.ireturn, 1) := by decide +kernel
theorem dX4_tell_15 : decode cX4_tell 15 = .ok (.iload_n 2, 1) := by decide +kernel
theorem dX4_tell_16 : decode cX4_tell 16 = .ok (.tableswitch 125 0 8 #[52, 57, 62, 67, 72, 77, 82, 95, 104], 52) := by decide +kernel
theorem dX4_tell_68 : decode cX4_tell 68 = .ok (.aload_n 3, 1) := by decide +kernel
theorem dX4_tell_69 : decode cX4_tell 69 = .ok (.getfield 88, 3) := by decide +kernel
theorem dX4_tell_72 : decode cX4_tell 72 = .ok (.ireturn, 1) := by decide +kernel
theorem dX4_tell_73 : decode cX4_tell 73 = .ok (.aload_n 3, 1) := by decide +kernel
theorem dX4_tell_74 : decode cX4_tell 74 = .ok (.getfield 91, 3) := by decide +kernel
theorem dX4_tell_77 : decode cX4_tell 77 = .ok (.ireturn, 1) := by decide +kernel
theorem dX4_tell_78 : decode cX4_tell 78 = .ok (.aload_n 3, 1) := by decide +kernel
theorem dX4_tell_79 : decode cX4_tell 79 = .ok (.getfield 94, 3) := by decide +kernel
theorem dX4_tell_82 : decode cX4_tell 82 = .ok (.ireturn, 1) := by decide +kernel
theorem dX4_tell_83 : decode cX4_tell 83 = .ok (.aload_n 3, 1) := by decide +kernel
theorem dX4_tell_84 : decode cX4_tell 84 = .ok (.getfield 97, 3) := by decide +kernel
theorem dX4_tell_87 : decode cX4_tell 87 = .ok (.ireturn, 1) := by decide +kernel
theorem dX4_tell_88 : decode cX4_tell 88 = .ok (.aload_n 3, 1) := by decide +kernel
theorem dX4_tell_89 : decode cX4_tell 89 = .ok (.getfield 100, 3) := by decide +kernel
theorem dX4_tell_92 : decode cX4_tell 92 = .ok (.ireturn, 1) := by decide +kernel
theorem dX4_tell_93 : decode cX4_tell 93 = .ok (.aload_n 3, 1) := by decide +kernel
theorem dX4_tell_94 : decode cX4_tell 94 = .ok (.getfield 103, 3) := by decide +kernel
theorem dX4_tell_97 : decode cX4_tell 97 = .ok (.ireturn, 1) := by decide +kernel
theorem dX4_tell_98 : decode cX4_tell 98 = .ok (.aload_n 3, 1) := by decide +kernel
theorem dX4_tell_99 : decode cX4_tell 99 = .ok (.getfield 106, 3) := by decide +kernel
theorem dX4_tell_102 : decode cX4_tell 102 = .ok (.ifCond .eq 7, 3) := by decide +kernel
theorem dX4_tell_105 : decode cX4_tell 105 = .ok (.iconst 1, 1) := by decide +kernel
theorem dX4_tell_106 : decode cX4_tell 106 = .ok (.goto 4, 3) := by decide +kernel
theorem dX4_tell_109 : decode cX4_tell 109 = .ok (.iconst 0, 1) := by decide +kernel
theorem dX4_tell_110 : decode cX4_tell 110 = .ok (.ireturn, 1) := by decide +kernel
theorem dX4_tell_111 : decode cX4_tell 111 = .ok (.aload_n 0, 1) := by decide +kernel
theorem dX4_tell_112 : decode cX4_tell 112 = .ok (.getfield 10, 3) := by decide +kernel
theorem dX4_tell_115 : decode cX4_tell 115 = .ok (.iload_n 1, 1) := by decide +kernel
theorem dX4_tell_116 : decode cX4_tell 116 = .ok (.invokevirtual 110, 3) := by decide +kernel
theorem dX4_tell_119 : decode cX4_tell 119 = .ok (.ireturn, 1) := by decide +kernel
theorem dX4_tell_120 : decode cX4_tell 120 = .ok (.aload_n 0, 1) := by decide +kernel
theorem dX4_tell_121 : decode cX4_tell 121 = .ok (.getfield 19, 3) := by decide +kernel
theorem dX4_tell_124 : decode cX4_tell 124 = .ok (.aload_n 0, 1) := by decide +kernel
theorem dX4_tell_125 : decode cX4_tell 125 = .ok (.getfield 10, 3) := by decide +kernel
theorem dX4_tell_128 : decode cX4_tell 128 = .ok (.iconst 1, 1) := by decide +kernel
theorem dX4_tell_129 : decode cX4_tell 129 = .ok (.invokevirtual 114, 3) := by decide +kernel
theorem dX4_tell_132 : decode cX4_tell 132 = .ok (.aload_n 0, 1) := by decide +kernel
theorem dX4_tell_133 : decode cX4_tell 133 = .ok (.getfield 19, 3) := by decide +kernel
theorem dX4_tell_136 : decode cX4_tell 136 = .ok (.iload_n 1, 1) := by decide +kernel
theorem dX4_tell_137 : decode cX4_tell 137 = .ok (.invokevirtual 118, 3) := by decide +kernel
theorem dX4_tell_140 : decode cX4_tell 140 = .ok (.ireturn, 1) := by decide +kernel
theorem dX4_tell_141 : decode cX4_tell 141 = .ok (.iconst (-1), 1) := by decide +kernel
theorem dX4_tell_142 : decode cX4_tell 142 = .ok (.ireturn, 1) := by decide +kernel
set_option maxRecDepth 20000 in
theorem ggX4_cell_X3_hasCell : GoodIn wsX4_cell wsX3_hasCell := goodIn_r _ [10, 11, 12, 13, 14, 15, 206, 207, 208, 209, 210, 211, 212, 213, 214, 215, 216] (by decide +kernel) (by decide +kernel)
set_option maxRecDepth 20000 in
theorem gX4_cell_X3_hasCell : GoodIn wsX4_cell (wsV RX4 121 RX3 yX3_hasCell wsX3_hasCell) := goodIn_app (goodIn_of _ (by decide +kernel)) ggX4_cell_X3_hasCell
set_option maxRecDepth 20000 in
theorem ggX4_cell_X1_work : GoodIn wsX4_cell wsX1_work := goodIn_r _ [20, 21, 22, 23, 24, 19, 25, 26, 27, 28, 29, 30, 31, 32, 33, 34, 35, 36, 37, 38, 39, 40, 41, 42, 43, 44, 9, 45, 46, 13, 14, 15, 47, 48, 49, 50, 51, 52, 53, 54, 55, 56, 57, 58, 59, 60, 61, 62, 63, 64, 65, 66, 67, 68, 69, 70, 71, 72, 73, 74, 75, 76, 77, 78, 79, 80, 81, 82, 83, 84, 85, 86, 87, 88, 89, 90, 91, 92, 93, 94, 95, 96, 97, 98, 99, 100, 101, 102, 103, 104, 105, 106, 107, 108, 109, 110, 111, 112, 113, 114, 115, 116, 117, 118, 119, 120, 121, 122, 123, 124, 125, 126, 127, 128, 129, 130, 131, 132, 133, 134, 135, 136, 137, 138, 139, 140, 141, 142, 143, 144, 145, 146, 147, 148, 149, 150, 151, 152, 153, 154, 155, 156, 157, 158, 159, 160, 161, 162, 163, 164, 165, 166, 167, 168, 169, 170, 171, 199, 200, 201, 202, 203, 204, 205, 206, 207, 208, 209, 210, 211, 212, 213, 214, 215, 216, 217, 218, 219, 220, 221, 222, 223, 224, 225] (by decide +kernel) (by decide +kernel)
set_option maxRecDepth 20000 in
theorem gX4_cell_X1_work : GoodIn wsX4_cell (wsV RX4 114 RX1 yX1_work wsX1_work) := goodIn_app (goodIn_of _ (by decide +kernel)) ggX4_cell_X1_work
set_option maxRecDepth 20000 in
theorem ggX4_cell_X0_through : GoodIn wsX4_cell wsX0_through := goodIn_r _ [175, 106, 176, 169, 170, 38, 171, 13, 14, 15, 143, 144, 145, 146, 40, 102, 103, 104, 105, 217, 218] (by decide +kernel) (by decide +kernel)
set_option maxRecDepth 20000 in
theorem gX4_cell_X0_through : GoodIn wsX4_cell (wsV RX4 128 RX0 yX0_through wsX0_through) := goodIn_app (goodIn_of _ (by decide +kernel)) ggX4_cell_X0_through
set_option maxRecDepth 20000 in
theorem ggX4_cell_X1_seenAt : GoodIn wsX4_cell wsX1_seenAt := goodIn_r _ [72, 26, 73, 74, 19, 75, 13, 14, 15, 199, 200, 201, 202, 203, 204, 205] (by decide +kernel) (by decide +kernel)
set_option maxRecDepth 20000 in
theorem gX4_cell_X1_seenAt : GoodIn wsX4_cell (wsV RX4 134 RX1 yX1_seenAt wsX1_seenAt) := goodIn_app (goodIn_of _ (by decide +kernel)) ggX4_cell_X1_seenAt
set_option maxRecDepth 20000 in
theorem ggX4_cell_X3_isFine : GoodIn wsX4_cell wsX3_isFine := goodIn_r _ [181, 182, 183, 48, 49, 9, 50, 51, 13, 14, 15, 219, 220, 221, 222, 223, 224, 225, 206, 207, 208, 209, 210, 211, 212, 213, 214, 215, 216] (by decide +kernel) (by decide +kernel)
set_option maxRecDepth 20000 in
theorem gX4_cell_X3_isFine : GoodIn wsX4_cell (wsV RX4 137 RX3 yX3_isFine wsX3_isFine) := goodIn_app (goodIn_of _ (by decide +kernel)) ggX4_cell_X3_isFine
set_option maxRecDepth 20000 in
theorem ggX4_cell_X1_bareIn : GoodIn wsX4_cell wsX1_bareIn := goodIn_r _ [187, 28, 156, 188, 189, 190, 38, 191, 106, 143, 144, 145, 146, 40, 102, 103, 104, 105, 199, 200, 201, 202, 203, 204, 205, 217, 218] (by decide +kernel) (by decide +kernel)
set_option maxRecDepth 20000 in
theorem gX4_cell_X1_bareIn : GoodIn wsX4_cell (wsV RX4 146 RX1 yX1_bareIn wsX1_bareIn) := goodIn_app (goodIn_of _ (by decide +kernel)) ggX4_cell_X1_bareIn
set_option maxRecDepth 20000 in
theorem ggX4_cell_X1_wrongIn : GoodIn wsX4_cell wsX1_wrongIn := goodIn_r _ [195, 28, 156, 151, 144, 145, 38, 146, 40, 102, 103, 104, 105, 106, 199, 200, 201, 202, 203, 204, 205, 217, 218] (by decide +kernel) (by decide +kernel)
set_option maxRecDepth 20000 in
theorem gX4_cell_X1_wrongIn : GoodIn wsX4_cell (wsV RX4 149 RX1 yX1_wrongIn wsX1_wrongIn) := goodIn_app (goodIn_of _ (by decide +kernel)) ggX4_cell_X1_wrongIn
theorem dX4_cell_0 : decode cX4_cell 0 = .ok (.aload_n 0, 1) := by decide +kernel
theorem dX4_cell_1 : decode cX4_cell 1 = .ok (.getfield 10, 3) := by decide +kernel
theorem dX4_cell_4 : decode cX4_cell 4 = .ok (.iload_n 1, 1) := by decide +kernel
theorem dX4_cell_5 : decode cX4_cell 5 = .ok (.iload_n 2, 1) := by decide +kernel
theorem dX4_cell_6 : decode cX4_cell 6 = .ok (.invokevirtual 121, 3) := by decide +kernel
theorem dX4_cell_9 : decode cX4_cell 9 = .ok (.ifCond .ne 5, 3) := by decide +kernel
theorem dX4_cell_12 : decode cX4_cell 12 = .ok (.iconst (-1), 1) := by decide +kernel
theorem dX4_cell_13 : decode cX4_cell 13 = .ok (.ireturn, 1) := by decide +kernel
theorem dX4_cell_14 : decode cX4_cell 14 = .ok (.aload_n 0, 1) := by decide +kernel
theorem dX4_cell_15 : decode cX4_cell 15 = .ok (.getfield 19, 3) := by decide +kernel
theorem dX4_cell_18 : decode cX4_cell 18 = .ok (.aload_n 0, 1) := by decide +kernel
theorem dX4_cell_19 : decode cX4_cell 19 = .ok (.getfield 10, 3) := by decide +kernel
theorem dX4_cell_22 : decode cX4_cell 22 = .ok (.iload_n 3, 1) := by decide +kernel
theorem dX4_cell_23 : decode cX4_cell 23 = .ok (.iconst 2, 1) := by decide +kernel
theorem dX4_cell_24 : decode cX4_cell 24 = .ok (.if_icmp .gt 7, 3) := by decide +kernel
theorem dX4_cell_27 : decode cX4_cell 27 = .ok (.iconst 1, 1) := by decide +kernel
theorem dX4_cell_28 : decode cX4_cell 28 = .ok (.goto 13, 3) := by decide +kernel
theorem dX4_cell_31 : decode cX4_cell 31 = .ok (.iload_n 3, 1) := by decide +kernel
theorem dX4_cell_32 : decode cX4_cell 32 = .ok (.iconst 3, 1) := by decide +kernel
theorem dX4_cell_33 : decode cX4_cell 33 = .ok (.if_icmp .ne 7, 3) := by decide +kernel
theorem dX4_cell_36 : decode cX4_cell 36 = .ok (.iconst 2, 1) := by decide +kernel
theorem dX4_cell_37 : decode cX4_cell 37 = .ok (.goto 4, 3) := by decide +kernel
theorem dX4_cell_40 : decode cX4_cell 40 = .ok (.iconst 3, 1) := by decide +kernel
theorem dX4_cell_41 : decode cX4_cell 41 = .ok (.invokevirtual 114, 3) := by decide +kernel
theorem dX4_cell_44 : decode cX4_cell 44 = .ok (.iload_n 3, 1) := by decide +kernel
theorem dX4_cell_45 : decode cX4_cell 45 = .ok (.tableswitch 143 0 6 #[43, 56, 81, 91, 104, 117, 130], 43) := by decide +kernel
theorem dX4_cell_88 : decode cX4_cell 88 = .ok (.aload_n 0, 1) := by decide +kernel
theorem dX4_cell_89 : decode cX4_cell 89 = .ok (.getfield 19, 3) := by decide +kernel
theorem dX4_cell_92 : decode cX4_cell 92 = .ok (.getfield 124, 3) := by decide +kernel
theorem dX4_cell_95 : decode cX4_cell 95 = .ok (.iload_n 1, 1) := by decide +kernel
theorem dX4_cell_96 : decode cX4_cell 96 = .ok (.iload_n 2, 1) := by decide +kernel
theorem dX4_cell_97 : decode cX4_cell 97 = .ok (.invokevirtual 128, 3) := by decide +kernel
theorem dX4_cell_100 : decode cX4_cell 100 = .ok (.ireturn, 1) := by decide +kernel
theorem dX4_cell_101 : decode cX4_cell 101 = .ok (.aload_n 0, 1) := by decide +kernel
theorem dX4_cell_102 : decode cX4_cell 102 = .ok (.getfield 10, 3) := by decide +kernel
theorem dX4_cell_105 : decode cX4_cell 105 = .ok (.aload_n 0, 1) := by decide +kernel
theorem dX4_cell_106 : decode cX4_cell 106 = .ok (.getfield 19, 3) := by decide +kernel
theorem dX4_cell_109 : decode cX4_cell 109 = .ok (.iload_n 1, 1) := by decide +kernel
theorem dX4_cell_110 : decode cX4_cell 110 = .ok (.iload_n 2, 1) := by decide +kernel
theorem dX4_cell_111 : decode cX4_cell 111 = .ok (.invokevirtual 134, 3) := by decide +kernel
theorem dX4_cell_114 : decode cX4_cell 114 = .ok (.invokevirtual 137, 3) := by decide +kernel
theorem dX4_cell_117 : decode cX4_cell 117 = .ok (.ifCond .eq 7, 3) := by decide +kernel
theorem dX4_cell_120 : decode cX4_cell 120 = .ok (.iconst 1, 1) := by decide +kernel
theorem dX4_cell_121 : decode cX4_cell 121 = .ok (.goto 4, 3) := by decide +kernel
theorem dX4_cell_124 : decode cX4_cell 124 = .ok (.iconst 0, 1) := by decide +kernel
theorem dX4_cell_125 : decode cX4_cell 125 = .ok (.ireturn, 1) := by decide +kernel
theorem dX4_cell_126 : decode cX4_cell 126 = .ok (.aload_n 0, 1) := by decide +kernel
theorem dX4_cell_127 : decode cX4_cell 127 = .ok (.getfield 19, 3) := by decide +kernel
theorem dX4_cell_130 : decode cX4_cell 130 = .ok (.iload_n 1, 1) := by decide +kernel
theorem dX4_cell_131 : decode cX4_cell 131 = .ok (.iload_n 2, 1) := by decide +kernel
theorem dX4_cell_132 : decode cX4_cell 132 = .ok (.invokevirtual 134, 3) := by decide +kernel
theorem dX4_cell_135 : decode cX4_cell 135 = .ok (.ireturn, 1) := by decide +kernel
theorem dX4_cell_136 : decode cX4_cell 136 = .ok (.aload_n 0, 1) := by decide +kernel
theorem dX4_cell_137 : decode cX4_cell 137 = .ok (.getfield 19, 3) := by decide +kernel
theorem dX4_cell_140 : decode cX4_cell 140 = .ok (.getfield 140, 3) := by decide +kernel
theorem dX4_cell_143 : decode cX4_cell 143 = .ok (.iload_n 1, 1) := by decide +kernel
theorem dX4_cell_144 : decode cX4_cell 144 = .ok (.iload_n 2, 1) := by decide +kernel
theorem dX4_cell_145 : decode cX4_cell 145 = .ok (.invokevirtual 128, 3) := by decide +kernel
theorem dX4_cell_148 : decode cX4_cell 148 = .ok (.ireturn, 1) := by decide +kernel
theorem dX4_cell_149 : decode cX4_cell 149 = .ok (.aload_n 0, 1) := by decide +kernel
theorem dX4_cell_150 : decode cX4_cell 150 = .ok (.getfield 19, 3) := by decide +kernel
theorem dX4_cell_153 : decode cX4_cell 153 = .ok (.getfield 143, 3) := by decide +kernel
theorem dX4_cell_156 : decode cX4_cell 156 = .ok (.iload_n 1, 1) := by decide +kernel
theorem dX4_cell_157 : decode cX4_cell 157 = .ok (.iload_n 2, 1) := by decide +kernel
theorem dX4_cell_158 : decode cX4_cell 158 = .ok (.invokevirtual 128, 3) := by decide +kernel
theorem dX4_cell_161 : decode cX4_cell 161 = .ok (.ireturn, 1) := by decide +kernel
theorem dX4_cell_162 : decode cX4_cell 162 = .ok (.aload_n 0, 1) := by decide +kernel
theorem dX4_cell_163 : decode cX4_cell 163 = .ok (.getfield 19, 3) := by decide +kernel
theorem dX4_cell_166 : decode cX4_cell 166 = .ok (.iload_n 1, 1) := by decide +kernel
theorem dX4_cell_167 : decode cX4_cell 167 = .ok (.invokevirtual 146, 3) := by decide +kernel
theorem dX4_cell_170 : decode cX4_cell 170 = .ok (.iload_n 2, 1) := by decide +kernel
theorem dX4_cell_171 : decode cX4_cell 171 = .ok (.ishr, 1) := by decide +kernel
theorem dX4_cell_172 : decode cX4_cell 172 = .ok (.iconst 1, 1) := by decide +kernel
theorem dX4_cell_173 : decode cX4_cell 173 = .ok (.iand, 1) := by decide +kernel
theorem dX4_cell_174 : decode cX4_cell 174 = .ok (.ireturn, 1) := by decide +kernel
theorem dX4_cell_175 : decode cX4_cell 175 = .ok (.aload_n 0, 1) := by decide +kernel
theorem dX4_cell_176 : decode cX4_cell 176 = .ok (.getfield 19, 3) := by decide +kernel
theorem dX4_cell_179 : decode cX4_cell 179 = .ok (.iload_n 1, 1) := by decide +kernel
theorem dX4_cell_180 : decode cX4_cell 180 = .ok (.invokevirtual 149, 3) := by decide +kernel
theorem dX4_cell_183 : decode cX4_cell 183 = .ok (.iload_n 2, 1) := by decide +kernel
theorem dX4_cell_184 : decode cX4_cell 184 = .ok (.ishr, 1) := by decide +kernel
theorem dX4_cell_185 : decode cX4_cell 185 = .ok (.iconst 1, 1) := by decide +kernel
theorem dX4_cell_186 : decode cX4_cell 186 = .ok (.iand, 1) := by decide +kernel
theorem dX4_cell_187 : decode cX4_cell 187 = .ok (.ireturn, 1) := by decide +kernel
theorem dX4_cell_188 : decode cX4_cell 188 = .ok (.iconst (-1), 1) := by decide +kernel
theorem dX4_cell_189 : decode cX4_cell 189 = .ok (.ireturn, 1) := by decide +kernel
set_option maxRecDepth 20000 in
theorem ggX4_inner_X3_hasCell : GoodIn wsX4_inner wsX3_hasCell := goodIn_r _ [8, 9, 10, 11, 12, 13, 185, 186, 187, 188, 189, 190, 191, 192, 193, 194, 195] (by decide +kernel) (by decide +kernel)
set_option maxRecDepth 20000 in
theorem gX4_inner_X3_hasCell : GoodIn wsX4_inner (wsV RX4 121 RX3 yX3_hasCell wsX3_hasCell) := goodIn_app (goodIn_of _ (by decide +kernel)) ggX4_inner_X3_hasCell
set_option maxRecDepth 20000 in
theorem ggX4_inner_X4_isWithin : GoodIn wsX4_inner wsX4_isWithin := goodIn_r _ [13] (by decide +kernel) (by decide +kernel)
set_option maxRecDepth 20000 in
theorem gX4_inner_X4_isWithin : GoodIn wsX4_inner (va_wsS RX4 27 yX4_isWithin wsX4_isWithin) := goodIn_app (goodIn_of _ (by decide +kernel)) ggX4_inner_X4_isWithin
set_option maxRecDepth 20000 in
theorem ggX4_inner_X1_work : GoodIn wsX4_inner wsX1_work := goodIn_r _ [19, 20, 21, 22, 23, 18, 24, 25, 26, 27, 28, 29, 30, 31, 32, 33, 34, 35, 36, 37, 38, 39, 40, 41, 42, 43, 7, 44, 45, 11, 12, 13, 46, 47, 48, 49, 50, 51, 52, 53, 54, 55, 56, 57, 58, 59, 60, 61, 62, 63, 64, 65, 66, 67, 68, 69, 70, 71, 72, 73, 74, 75, 76, 77, 78, 79, 80, 81, 82, 83, 84, 85, 86, 87, 88, 89, 90, 91, 92, 93, 94, 95, 96, 97, 98, 99, 100, 101, 102, 103, 104, 105, 106, 107, 108, 109, 110, 111, 112, 113, 114, 115, 116, 117, 118, 119, 120, 121, 122, 123, 124, 125, 126, 127, 128, 129, 130, 131, 132, 133, 134, 135, 136, 137, 138, 139, 140, 141, 142, 143, 144, 145, 146, 147, 148, 149, 150, 151, 152, 153, 154, 155, 156, 157, 158, 159, 160, 161, 162, 163, 164, 165, 166, 167, 168, 169, 170, 178, 179, 180, 181, 182, 183, 184, 185, 186, 187, 188, 189, 190, 191, 192, 193, 194, 195, 196, 197, 198, 199, 200, 201, 202, 203, 204] (by decide +kernel) (by decide +kernel)
set_option maxRecDepth 20000 in
theorem gX4_inner_X1_work : GoodIn wsX4_inner (wsV RX4 114 RX1 yX1_work wsX1_work) := goodIn_app (goodIn_of _ (by decide +kernel)) ggX4_inner_X1_work
set_option maxRecDepth 20000 in
theorem ggX4_inner_X0_surrounded : GoodIn wsX4_inner wsX0_surrounded := goodIn_r _ [174, 142, 143, 144, 37, 145, 39, 101, 102, 103, 104, 105, 196, 197] (by decide +kernel) (by decide +kernel)
set_option maxRecDepth 20000 in
theorem gX4_inner_X0_surrounded : GoodIn wsX4_inner (wsV RX4 155 RX0 yX0_surrounded wsX0_surrounded) := goodIn_app (goodIn_of _ (by decide +kernel)) ggX4_inner_X0_surrounded
theorem dX4_inner_0 : decode cX4_inner 0 = .ok (.aload_n 0, 1) := by decide +kernel
theorem dX4_inner_1 : decode cX4_inner 1 = .ok (.getfield 10, 3) := by decide +kernel
theorem dX4_inner_4 : decode cX4_inner 4 = .ok (.iload_n 1, 1) := by decide +kernel
theorem dX4_inner_5 : decode cX4_inner 5 = .ok (.iload_n 2, 1) := by decide +kernel
theorem dX4_inner_6 : decode cX4_inner 6 = .ok (.invokevirtual 121, 3) := by decide +kernel
theorem dX4_inner_9 : decode cX4_inner 9 = .ok (.ifCond .eq 13, 3) := by decide +kernel
theorem dX4_inner_12 : decode cX4_inner 12 = .ok (.iload_n 3, 1) := by decide +kernel
theorem dX4_inner_13 : decode cX4_inner 13 = .ok (.iconst 0, 1) := by decide +kernel
theorem dX4_inner_14 : decode cX4_inner 14 = .ok (.bipush 15, 2) := by decide +kernel
theorem dX4_inner_16 : decode cX4_inner 16 = .ok (.invokestatic 27, 3) := by decide +kernel
theorem dX4_inner_19 : decode cX4_inner 19 = .ok (.ifCond .ne 5, 3) := by decide +kernel
theorem dX4_inner_22 : decode cX4_inner 22 = .ok (.iconst 0, 1) := by decide +kernel
theorem dX4_inner_23 : decode cX4_inner 23 = .ok (.ireturn, 1) := by decide +kernel
theorem dX4_inner_24 : decode cX4_inner 24 = .ok (.aload_n 0, 1) := by decide +kernel
theorem dX4_inner_25 : decode cX4_inner 25 = .ok (.getfield 19, 3) := by decide +kernel
theorem dX4_inner_28 : decode cX4_inner 28 = .ok (.aload_n 0, 1) := by decide +kernel
theorem dX4_inner_29 : decode cX4_inner 29 = .ok (.getfield 10, 3) := by decide +kernel
theorem dX4_inner_32 : decode cX4_inner 32 = .ok (.iconst 1, 1) := by decide +kernel
theorem dX4_inner_33 : decode cX4_inner 33 = .ok (.invokevirtual 114, 3) := by decide +kernel
theorem dX4_inner_36 : decode cX4_inner 36 = .ok (.aload_n 0, 1) := by decide +kernel
theorem dX4_inner_37 : decode cX4_inner 37 = .ok (.getfield 19, 3) := by decide +kernel
theorem dX4_inner_40 : decode cX4_inner 40 = .ok (.getfield 152, 3) := by decide +kernel
theorem dX4_inner_43 : decode cX4_inner 43 = .ok (.iconst 0, 1) := by decide +kernel
theorem dX4_inner_44 : decode cX4_inner 44 = .ok (.iload_n 1, 1) := by decide +kernel
theorem dX4_inner_45 : decode cX4_inner 45 = .ok (.iload_n 3, 1) := by decide +kernel
theorem dX4_inner_46 : decode cX4_inner 46 = .ok (.invokevirtual 155, 3) := by decide +kernel
theorem dX4_inner_49 : decode cX4_inner 49 = .ok (.iload_n 2, 1) := by decide +kernel
theorem dX4_inner_50 : decode cX4_inner 50 = .ok (.ishr, 1) := by decide +kernel
theorem dX4_inner_51 : decode cX4_inner 51 = .ok (.iconst 1, 1) := by decide +kernel
theorem dX4_inner_52 : decode cX4_inner 52 = .ok (.iand, 1) := by decide +kernel
theorem dX4_inner_53 : decode cX4_inner 53 = .ok (.iconst 1, 1) := by decide +kernel
theorem dX4_inner_54 : decode cX4_inner 54 = .ok (.if_icmp .ne 7, 3) := by decide +kernel
theorem dX4_inner_57 : decode cX4_inner 57 = .ok (.iconst 1, 1) := by decide +kernel
theorem dX4_inner_58 : decode cX4_inner 58 = .ok (.goto 4, 3) := by decide +kernel
theorem dX4_inner_61 : decode cX4_inner 61 = .ok (.iconst 0, 1) := by decide +kernel
theorem dX4_inner_62 : decode cX4_inner 62 = .ok (.ireturn, 1) := by decide +kernel
set_option maxRecDepth 20000 in
theorem ggX4_lighter_X4_isColour : GoodIn wsX4_lighter wsX4_isColour := goodIn_r _ [5, 6, 7, 4, 8] (by decide +kernel) (by decide +kernel)
set_option maxRecDepth 20000 in
theorem gX4_lighter_X4_isColour : GoodIn wsX4_lighter (va_wsS RX4 50 yX4_isColour wsX4_isColour) := goodIn_app (goodIn_of _ (by decide +kernel)) ggX4_lighter_X4_isColour
set_option maxRecDepth 20000 in
theorem ggX4_lighter_X3_isLighter : GoodIn wsX4_lighter wsX3_isLighter := goodIn_r _ [13, 14, 15, 16, 12, 17, 18, 19, 4, 20, 24, 25, 26, 27, 28, 29, 30, 31, 32, 33, 34] (by decide +kernel) (by decide +kernel)
set_option maxRecDepth 20000 in
theorem gX4_lighter_X3_isLighter : GoodIn wsX4_lighter (wsV RX4 159 RX3 yX3_isLighter wsX3_isLighter) := goodIn_app (goodIn_of _ (by decide +kernel)) ggX4_lighter_X3_isLighter
theorem dX4_lighter_0 : decode cX4_lighter 0 = .ok (.iload_n 1, 1) := by decide +kernel
theorem dX4_lighter_1 : decode cX4_lighter 1 = .ok (.invokestatic 50, 3) := by decide +kernel
theorem dX4_lighter_4 : decode cX4_lighter 4 = .ok (.ifCond .eq 26, 3) := by decide +kernel
theorem dX4_lighter_7 : decode cX4_lighter 7 = .ok (.iload_n 2, 1) := by decide +kernel
theorem dX4_lighter_8 : decode cX4_lighter 8 = .ok (.invokestatic 50, 3) := by decide +kernel
theorem dX4_lighter_11 : decode cX4_lighter 11 = .ok (.ifCond .eq 19, 3) := by decide +kernel
theorem dX4_lighter_14 : decode cX4_lighter 14 = .ok (.aload_n 0, 1) := by decide +kernel
theorem dX4_lighter_15 : decode cX4_lighter 15 = .ok (.getfield 10, 3) := by decide +kernel
theorem dX4_lighter_18 : decode cX4_lighter 18 = .ok (.iload_n 1, 1) := by decide +kernel
theorem dX4_lighter_19 : decode cX4_lighter 19 = .ok (.iload_n 2, 1) := by decide +kernel
theorem dX4_lighter_20 : decode cX4_lighter 20 = .ok (.invokevirtual 159, 3) := by decide +kernel
theorem dX4_lighter_23 : decode cX4_lighter 23 = .ok (.ifCond .eq 7, 3) := by decide +kernel
theorem dX4_lighter_26 : decode cX4_lighter 26 = .ok (.iconst 1, 1) := by decide +kernel
theorem dX4_lighter_27 : decode cX4_lighter 27 = .ok (.goto 4, 3) := by decide +kernel
theorem dX4_lighter_30 : decode cX4_lighter 30 = .ok (.iconst 0, 1) := by decide +kernel
theorem dX4_lighter_31 : decode cX4_lighter 31 = .ok (.ireturn, 1) := by decide +kernel
set_option maxRecDepth 20000 in
theorem ggX4_trap_X4_isWithin : GoodIn wsX4_trap wsX4_isWithin := goodIn_r _ [9] (by decide +kernel) (by decide +kernel)
set_option maxRecDepth 20000 in
theorem gX4_trap_X4_isWithin : GoodIn wsX4_trap (va_wsS RX4 27 yX4_isWithin wsX4_isWithin) := goodIn_app (goodIn_of _ (by decide +kernel)) ggX4_trap_X4_isWithin
set_option maxRecDepth 20000 in
theorem ggX4_trap_X1_keepOnly : GoodIn wsX4_trap wsX1_keepOnly := goodIn_r _ [14, 15, 16, 17, 18, 19, 196, 197, 198, 199, 200, 201, 202] (by decide +kernel) (by decide +kernel)
set_option maxRecDepth 20000 in
theorem gX4_trap_X1_keepOnly : GoodIn wsX4_trap (wsV RX4 38 RX1 yX1_keepOnly wsX1_keepOnly) := goodIn_app (goodIn_of _ (by decide +kernel)) ggX4_trap_X1_keepOnly
set_option maxRecDepth 20000 in
theorem ggX4_trap_X1_work : GoodIn wsX4_trap wsX1_work := goodIn_r _ [23, 15, 24, 25, 26, 13, 27, 28, 29, 30, 31, 32, 33, 34, 35, 36, 37, 38, 39, 40, 41, 42, 43, 44, 45, 46, 47, 48, 49, 7, 8, 9, 50, 51, 52, 53, 54, 55, 56, 57, 58, 59, 60, 61, 16, 17, 18, 19, 62, 63, 64, 65, 66, 67, 68, 69, 70, 71, 72, 73, 74, 75, 76, 77, 78, 79, 80, 81, 82, 83, 84, 85, 86, 87, 88, 89, 90, 91, 92, 93, 94, 95, 96, 97, 98, 99, 100, 101, 102, 103, 104, 105, 106, 107, 108, 109, 110, 111, 112, 113, 114, 115, 116, 117, 118, 119, 120, 121, 122, 123, 124, 125, 126, 127, 128, 129, 130, 131, 132, 133, 134, 135, 136, 137, 138, 139, 140, 141, 142, 143, 144, 145, 146, 147, 148, 149, 150, 151, 152, 153, 154, 155, 156, 157, 158, 159, 160, 161, 162, 163, 164, 165, 166, 167, 168, 169, 170, 196, 197, 198, 199, 200, 201, 202, 185, 186, 187, 188, 189, 190, 191, 192, 193, 194, 195, 203, 204, 205, 206, 207, 208, 209, 210, 211] (by decide +kernel) (by decide +kernel)
set_option maxRecDepth 20000 in
theorem gX4_trap_X1_work : GoodIn wsX4_trap (wsV RX4 114 RX1 yX1_work wsX1_work) := goodIn_app (goodIn_of _ (by decide +kernel)) ggX4_trap_X1_work
set_option maxRecDepth 20000 in
theorem ggX4_trap_X0_size : GoodIn wsX4_trap wsX0_size := goodIn_r _ [174, 42, 175, 176, 177, 178, 179, 180, 181, 203, 204] (by decide +kernel) (by decide +kernel)
set_option maxRecDepth 20000 in
theorem gX4_trap_X0_size : GoodIn wsX4_trap (wsV RX4 165 RX0 yX0_size wsX0_size) := goodIn_app (goodIn_of _ (by decide +kernel)) ggX4_trap_X0_size
theorem dX4_trap_0 : decode cX4_trap 0 = .ok (.iload_n 1, 1) := by decide +kernel
theorem dX4_trap_1 : decode cX4_trap 1 = .ok (.iconst 0, 1) := by decide +kernel
theorem dX4_trap_2 : decode cX4_trap 2 = .ok (.bipush 6, 2) := by decide +kernel
theorem dX4_trap_4 : decode cX4_trap 4 = .ok (.invokestatic 27, 3) := by decide +kernel
theorem dX4_trap_7 : decode cX4_trap 7 = .ok (.ifCond .ne 5, 3) := by decide +kernel
theorem dX4_trap_10 : decode cX4_trap 10 = .ok (.iconst (-1), 1) := by decide +kernel
theorem dX4_trap_11 : decode cX4_trap 11 = .ok (.ireturn, 1) := by decide +kernel
theorem dX4_trap_12 : decode cX4_trap 12 = .ok (.aload_n 0, 1) := by decide +kernel
theorem dX4_trap_13 : decode cX4_trap 13 = .ok (.getfield 10, 3) := by decide +kernel
theorem dX4_trap_16 : decode cX4_trap 16 = .ok (.iload_n 1, 1) := by decide +kernel
theorem dX4_trap_17 : decode cX4_trap 17 = .ok (.putfield 162, 3) := by decide +kernel
theorem dX4_trap_20 : decode cX4_trap 20 = .ok (.aload_n 0, 1) := by decide +kernel
theorem dX4_trap_21 : decode cX4_trap 21 = .ok (.getfield 19, 3) := by decide +kernel
theorem dX4_trap_24 : decode cX4_trap 24 = .ok (.iconst 1, 1) := by decide +kernel
theorem dX4_trap_25 : decode cX4_trap 25 = .ok (.invokevirtual 38, 3) := by decide +kernel
theorem dX4_trap_28 : decode cX4_trap 28 = .ok (.aload_n 0, 1) := by decide +kernel
theorem dX4_trap_29 : decode cX4_trap 29 = .ok (.getfield 19, 3) := by decide +kernel
theorem dX4_trap_32 : decode cX4_trap 32 = .ok (.aload_n 0, 1) := by decide +kernel
theorem dX4_trap_33 : decode cX4_trap 33 = .ok (.getfield 10, 3) := by decide +kernel
theorem dX4_trap_36 : decode cX4_trap 36 = .ok (.iconst 2, 1) := by decide +kernel
theorem dX4_trap_37 : decode cX4_trap 37 = .ok (.invokevirtual 114, 3) := by decide +kernel
theorem dX4_trap_40 : decode cX4_trap 40 = .ok (.aload_n 0, 1) := by decide +kernel
theorem dX4_trap_41 : decode cX4_trap 41 = .ok (.getfield 19, 3) := by decide +kernel
theorem dX4_trap_44 : decode cX4_trap 44 = .ok (.getfield 140, 3) := by decide +kernel
theorem dX4_trap_47 : decode cX4_trap 47 = .ok (.invokevirtual 165, 3) := by decide +kernel
theorem dX4_trap_50 : decode cX4_trap 50 = .ok (.aload_n 0, 1) := by decide +kernel
theorem dX4_trap_51 : decode cX4_trap 51 = .ok (.getfield 19, 3) := by decide +kernel
theorem dX4_trap_54 : decode cX4_trap 54 = .ok (.getfield 124, 3) := by decide +kernel
theorem dX4_trap_57 : decode cX4_trap 57 = .ok (.invokevirtual 165, 3) := by decide +kernel
theorem dX4_trap_60 : decode cX4_trap 60 = .ok (.isub, 1) := by decide +kernel
theorem dX4_trap_61 : decode cX4_trap 61 = .ok (.ireturn, 1) := by decide +kernel
set_option maxRecDepth 20000 in
theorem ggX4_off_X4_isInk : GoodIn wsX4_off wsX4_isInk := goodIn_r _ [8, 9, 10, 7, 11] (by decide +kernel) (by decide +kernel)
set_option maxRecDepth 20000 in
theorem gX4_off_X4_isInk : GoodIn wsX4_off (va_wsS RX4 42 yX4_isInk wsX4_isInk) := goodIn_app (goodIn_of _ (by decide +kernel)) ggX4_off_X4_isInk
set_option maxRecDepth 20000 in
theorem ggX4_off_X4_isOff : GoodIn wsX4_off wsX4_isOff := goodIn_r _ [14, 9, 10, 7, 11] (by decide +kernel) (by decide +kernel)
set_option maxRecDepth 20000 in
theorem gX4_off_X4_isOff : GoodIn wsX4_off (va_wsS RX4 169 yX4_isOff wsX4_isOff) := goodIn_app (goodIn_of _ (by decide +kernel)) ggX4_off_X4_isOff
set_option maxRecDepth 20000 in
theorem ggX4_off_X1_keepOnly : GoodIn wsX4_off wsX1_keepOnly := goodIn_r _ [19, 20, 21, 22, 23, 24, 39, 40, 41, 42, 43, 44, 45] (by decide +kernel) (by decide +kernel)
set_option maxRecDepth 20000 in
theorem gX4_off_X1_keepOnly : GoodIn wsX4_off (wsV RX4 38 RX1 yX1_keepOnly wsX1_keepOnly) := goodIn_app (goodIn_of _ (by decide +kernel)) ggX4_off_X1_keepOnly
theorem dX4_off_0 : decode cX4_off 0 = .ok (.iload_n 1, 1) := by decide +kernel
theorem dX4_off_1 : decode cX4_off 1 = .ok (.invokestatic 42, 3) := by decide +kernel
theorem dX4_off_4 : decode cX4_off 4 = .ok (.ifCond .eq 11, 3) := by decide +kernel
theorem dX4_off_7 : decode cX4_off 7 = .ok (.iload_n 2, 1) := by decide +kernel
theorem dX4_off_8 : decode cX4_off 8 = .ok (.iload_n 3, 1) := by decide +kernel
theorem dX4_off_9 : decode cX4_off 9 = .ok (.invokestatic 169, 3) := by decide +kernel
theorem dX4_off_12 : decode cX4_off 12 = .ok (.ifCond .ne 5, 3) := by decide +kernel
theorem dX4_off_15 : decode cX4_off 15 = .ok (.iconst 0, 1) := by decide +kernel
theorem dX4_off_16 : decode cX4_off 16 = .ok (.ireturn, 1) := by decide +kernel
theorem dX4_off_17 : decode cX4_off 17 = .ok (.aload_n 0, 1) := by decide +kernel
theorem dX4_off_18 : decode cX4_off 18 = .ok (.getfield 10, 3) := by decide +kernel
theorem dX4_off_21 : decode cX4_off 21 = .ok (.getfield 172, 3) := by decide +kernel
theorem dX4_off_24 : decode cX4_off 24 = .ok (.iload_n 1, 1) := by decide +kernel
theorem dX4_off_25 : decode cX4_off 25 = .ok (.iload_n 2, 1) := by decide +kernel
theorem dX4_off_26 : decode cX4_off 26 = .ok (.iastore, 1) := by decide +kernel
theorem dX4_off_27 : decode cX4_off 27 = .ok (.aload_n 0, 1) := by decide +kernel
theorem dX4_off_28 : decode cX4_off 28 = .ok (.getfield 10, 3) := by decide +kernel
theorem dX4_off_31 : decode cX4_off 31 = .ok (.getfield 175, 3) := by decide +kernel
theorem dX4_off_34 : decode cX4_off 34 = .ok (.iload_n 1, 1) := by decide +kernel
theorem dX4_off_35 : decode cX4_off 35 = .ok (.iload_n 3, 1) := by decide +kernel
theorem dX4_off_36 : decode cX4_off 36 = .ok (.iastore, 1) := by decide +kernel
theorem dX4_off_37 : decode cX4_off 37 = .ok (.aload_n 0, 1) := by decide +kernel
theorem dX4_off_38 : decode cX4_off 38 = .ok (.getfield 19, 3) := by decide +kernel
theorem dX4_off_41 : decode cX4_off 41 = .ok (.iconst 2, 1) := by decide +kernel
theorem dX4_off_42 : decode cX4_off 42 = .ok (.invokevirtual 38, 3) := by decide +kernel
theorem dX4_off_45 : decode cX4_off 45 = .ok (.iconst 1, 1) := by decide +kernel
theorem dX4_off_46 : decode cX4_off 46 = .ok (.ireturn, 1) := by decide +kernel
set_option maxRecDepth 20000 in
theorem ggX4_creep_X4_isWithin : GoodIn wsX4_creep wsX4_isWithin := goodIn_r _ [7] (by decide +kernel) (by decide +kernel)
set_option maxRecDepth 20000 in
theorem gX4_creep_X4_isWithin : GoodIn wsX4_creep (va_wsS RX4 27 yX4_isWithin wsX4_isWithin) := goodIn_app (goodIn_of _ (by decide +kernel)) ggX4_creep_X4_isWithin
set_option maxRecDepth 20000 in
theorem ggX4_creep_X1_keepOnly : GoodIn wsX4_creep wsX1_keepOnly := goodIn_r _ [12, 13, 14, 15, 16, 17, 32, 33, 34, 35, 36, 37, 38] (by decide +kernel) (by decide +kernel)
set_option maxRecDepth 20000 in
theorem gX4_creep_X1_keepOnly : GoodIn wsX4_creep (wsV RX4 38 RX1 yX1_keepOnly wsX1_keepOnly) := goodIn_app (goodIn_of _ (by decide +kernel)) ggX4_creep_X1_keepOnly
theorem dX4_creep_0 : decode cX4_creep 0 = .ok (.iload_n 1, 1) := by decide +kernel
theorem dX4_creep_1 : decode cX4_creep 1 = .ok (.bipush (-8), 2) := by decide +kernel
theorem dX4_creep_3 : decode cX4_creep 3 = .ok (.bipush 8, 2) := by decide +kernel
theorem dX4_creep_5 : decode cX4_creep 5 = .ok (.invokestatic 27, 3) := by decide +kernel
theorem dX4_creep_8 : decode cX4_creep 8 = .ok (.ifCond .ne 5, 3) := by decide +kernel
theorem dX4_creep_11 : decode cX4_creep 11 = .ok (.iconst 0, 1) := by decide +kernel
theorem dX4_creep_12 : decode cX4_creep 12 = .ok (.ireturn, 1) := by decide +kernel
theorem dX4_creep_13 : decode cX4_creep 13 = .ok (.aload_n 0, 1) := by decide +kernel
theorem dX4_creep_14 : decode cX4_creep 14 = .ok (.getfield 10, 3) := by decide +kernel
theorem dX4_creep_17 : decode cX4_creep 17 = .ok (.iload_n 1, 1) := by decide +kernel
theorem dX4_creep_18 : decode cX4_creep 18 = .ok (.putfield 178, 3) := by decide +kernel
theorem dX4_creep_21 : decode cX4_creep 21 = .ok (.aload_n 0, 1) := by decide +kernel
theorem dX4_creep_22 : decode cX4_creep 22 = .ok (.getfield 19, 3) := by decide +kernel
theorem dX4_creep_25 : decode cX4_creep 25 = .ok (.iconst 2, 1) := by decide +kernel
theorem dX4_creep_26 : decode cX4_creep 26 = .ok (.invokevirtual 38, 3) := by decide +kernel
theorem dX4_creep_29 : decode cX4_creep 29 = .ok (.iconst 1, 1) := by decide +kernel
theorem dX4_creep_30 : decode cX4_creep 30 = .ok (.ireturn, 1) := by decide +kernel
set_option maxRecDepth 20000 in
theorem ggX4_right_X3_layRight : GoodIn wsX4_right wsX3_layRight := goodIn_r _ [7, 8, 9, 10, 11, 12, 13, 14, 28, 29, 30, 31, 32, 33, 34, 35, 36, 37, 38] (by decide +kernel) (by decide +kernel)
set_option maxRecDepth 20000 in
theorem gX4_right_X3_layRight : GoodIn wsX4_right (wsV RX4 181 RX3 yX3_layRight wsX3_layRight) := goodIn_app (goodIn_of _ (by decide +kernel)) ggX4_right_X3_layRight
set_option maxRecDepth 20000 in
theorem ggX4_right_X1_keepOnly : GoodIn wsX4_right wsX1_keepOnly := goodIn_r _ [19, 20, 21, 22, 23, 24, 39, 40, 41, 42, 43, 44, 45] (by decide +kernel) (by decide +kernel)
set_option maxRecDepth 20000 in
theorem gX4_right_X1_keepOnly : GoodIn wsX4_right (wsV RX4 38 RX1 yX1_keepOnly wsX1_keepOnly) := goodIn_app (goodIn_of _ (by decide +kernel)) ggX4_right_X1_keepOnly
theorem dX4_right_0 : decode cX4_right 0 = .ok (.aload_n 0, 1) := by decide +kernel
theorem dX4_right_1 : decode cX4_right 1 = .ok (.getfield 10, 3) := by decide +kernel
theorem dX4_right_4 : decode cX4_right 4 = .ok (.invokevirtual 181, 3) := by decide +kernel
theorem dX4_right_7 : decode cX4_right 7 = .ok (.aload_n 0, 1) := by decide +kernel
theorem dX4_right_8 : decode cX4_right 8 = .ok (.getfield 19, 3) := by decide +kernel
theorem dX4_right_11 : decode cX4_right 11 = .ok (.iconst 2, 1) := by decide +kernel
theorem dX4_right_12 : decode cX4_right 12 = .ok (.invokevirtual 38, 3) := by decide +kernel
theorem dX4_right_15 : decode cX4_right 15 = .ok (.return_, 1) := by decide +kernel
set_option maxRecDepth 20000 in
theorem ggX4_count_X1_work : GoodIn wsX4_count wsX1_work := goodIn_r _ [13, 14, 15, 16, 17, 12, 18, 19, 20, 21, 22, 23, 24, 25, 26, 27, 28, 29, 30, 31, 32, 33, 34, 35, 36, 37, 38, 39, 40, 41, 42, 43, 44, 45, 46, 47, 48, 49, 50, 51, 52, 53, 54, 55, 56, 57, 58, 59, 60, 61, 62, 63, 64, 65, 66, 67, 68, 69, 70, 71, 72, 73, 74, 75, 76, 77, 78, 79, 80, 81, 82, 83, 84, 85, 86, 87, 88, 89, 90, 91, 92, 93, 94, 95, 96, 97, 98, 99, 100, 101, 102, 103, 104, 105, 106, 107, 108, 109, 110, 111, 112, 113, 114, 115, 116, 117, 118, 119, 120, 121, 122, 123, 124, 125, 126, 127, 128, 129, 130, 131, 132, 133, 134, 135, 136, 137, 138, 139, 140, 141, 142, 143, 144, 145, 146, 147, 148, 149, 150, 151, 152, 153, 154, 155, 156, 157, 158, 159, 160, 161, 162, 163, 164, 165, 166, 167, 168, 228, 229, 230, 231, 232, 233, 234, 235, 236, 237, 238, 239, 240, 241, 242, 243, 244, 245, 246, 247, 248, 249, 250, 251, 252, 253, 254] (by decide +kernel) (by decide +kernel)
set_option maxRecDepth 20000 in
theorem gX4_count_X1_work : GoodIn wsX4_count (wsV RX4 114 RX1 yX1_work wsX1_work) := goodIn_app (goodIn_of _ (by decide +kernel)) ggX4_count_X1_work
set_option maxRecDepth 20000 in
theorem ggX4_count_X1_colouredCells : GoodIn wsX4_count wsX1_colouredCells := goodIn_r _ [172, 21, 173, 174, 175, 31, 176, 103, 140, 141, 142, 143, 33, 99, 100, 101, 102, 177, 178, 179, 180, 181, 182, 183, 228, 229, 230, 231, 232, 233, 234, 246, 247] (by decide +kernel) (by decide +kernel)
set_option maxRecDepth 20000 in
theorem gX4_count_X1_colouredCells : GoodIn wsX4_count (wsV RX4 184 RX1 yX1_colouredCells wsX1_colouredCells) := goodIn_app (goodIn_of _ (by decide +kernel)) ggX4_count_X1_colouredCells
set_option maxRecDepth 20000 in
theorem ggX4_count_X1_bareCells : GoodIn wsX4_count wsX1_bareCells := goodIn_r _ [187, 188, 189, 190, 12, 191, 21, 153, 173, 174, 175, 31, 176, 103, 140, 141, 142, 143, 33, 99, 100, 101, 102, 177, 178, 179, 180, 181, 182, 183, 228, 229, 230, 231, 232, 233, 234, 246, 247] (by decide +kernel) (by decide +kernel)
set_option maxRecDepth 20000 in
theorem gX4_count_X1_bareCells : GoodIn wsX4_count (wsV RX4 187 RX1 yX1_bareCells wsX1_bareCells) := goodIn_app (goodIn_of _ (by decide +kernel)) ggX4_count_X1_bareCells
set_option maxRecDepth 20000 in
theorem ggX4_count_X1_wrongCells : GoodIn wsX4_count wsX1_wrongCells := goodIn_r _ [195, 196, 197, 198, 12, 199, 21, 153, 148, 141, 142, 31, 143, 33, 99, 100, 101, 102, 103, 177, 178, 179, 180, 181, 182, 183, 228, 229, 230, 231, 232, 233, 234, 246, 247] (by decide +kernel) (by decide +kernel)
set_option maxRecDepth 20000 in
theorem gX4_count_X1_wrongCells : GoodIn wsX4_count (wsV RX4 190 RX1 yX1_wrongCells wsX1_wrongCells) := goodIn_app (goodIn_of _ (by decide +kernel)) ggX4_count_X1_wrongCells
set_option maxRecDepth 20000 in
theorem ggX4_count_X3_reach : GoodIn wsX4_count wsX3_reach := goodIn_r _ [203, 204, 205, 206, 58, 207, 208, 64, 65, 209, 210, 160, 161, 38, 162, 163, 164, 235, 236, 237, 238, 239, 240, 241, 242, 243, 244, 245] (by decide +kernel) (by decide +kernel)
set_option maxRecDepth 20000 in
theorem gX4_count_X3_reach : GoodIn wsX4_count (wsV RX4 193 RX3 yX3_reach wsX3_reach) := goodIn_app (goodIn_of _ (by decide +kernel)) ggX4_count_X3_reach
set_option maxRecDepth 20000 in
theorem ggX4_count_X0_size : GoodIn wsX4_count wsX0_size := goodIn_r _ [214, 33, 215, 178, 179, 180, 181, 182, 183, 246, 247] (by decide +kernel) (by decide +kernel)
set_option maxRecDepth 20000 in
theorem gX4_count_X0_size : GoodIn wsX4_count (wsV RX4 165 RX0 yX0_size wsX0_size) := goodIn_app (goodIn_of _ (by decide +kernel)) ggX4_count_X0_size
set_option maxRecDepth 20000 in
theorem ggX4_count_X1_crowdedCells : GoodIn wsX4_count wsX1_crowdedCells := goodIn_r _ [219, 153, 220, 221, 222, 31, 223, 103, 224, 166, 167, 168, 41, 42, 43, 140, 141, 142, 143, 33, 99, 100, 101, 102, 177, 178, 179, 180, 181, 182, 183, 228, 229, 230, 231, 232, 233, 234, 246, 247] (by decide +kernel) (by decide +kernel)
set_option maxRecDepth 20000 in
theorem gX4_count_X1_crowdedCells : GoodIn wsX4_count (wsV RX4 196 RX1 yX1_crowdedCells wsX1_crowdedCells) := goodIn_app (goodIn_of _ (by decide +kernel)) ggX4_count_X1_crowdedCells
theorem dX4_count_0 : decode cX4_count 0 = .ok (.iload_n 1, 1) := by decide +kernel
theorem dX4_count_1 : decode cX4_count 1 = .ok (.tableswitch 210 0 10 #[59, 79, 99, 119, 127, 150, 170, 178, 186, 194, 202], 59) := by decide +kernel
theorem dX4_count_60 : decode cX4_count 60 = .ok (.aload_n 0, 1) := by decide +kernel
theorem dX4_count_61 : decode cX4_count 61 = .ok (.getfield 19, 3) := by decide +kernel
theorem dX4_count_64 : decode cX4_count 64 = .ok (.aload_n 0, 1) := by decide +kernel
theorem dX4_count_65 : decode cX4_count 65 = .ok (.getfield 10, 3) := by decide +kernel
theorem dX4_count_68 : decode cX4_count 68 = .ok (.iconst 1, 1) := by decide +kernel
theorem dX4_count_69 : decode cX4_count 69 = .ok (.invokevirtual 114, 3) := by decide +kernel
theorem dX4_count_72 : decode cX4_count 72 = .ok (.aload_n 0, 1) := by decide +kernel
theorem dX4_count_73 : decode cX4_count 73 = .ok (.getfield 19, 3) := by decide +kernel
theorem dX4_count_76 : decode cX4_count 76 = .ok (.invokevirtual 184, 3) := by decide +kernel
theorem dX4_count_79 : decode cX4_count 79 = .ok (.ireturn, 1) := by decide +kernel
theorem dX4_count_80 : decode cX4_count 80 = .ok (.aload_n 0, 1) := by decide +kernel
theorem dX4_count_81 : decode cX4_count 81 = .ok (.getfield 19, 3) := by decide +kernel
theorem dX4_count_84 : decode cX4_count 84 = .ok (.aload_n 0, 1) := by decide +kernel
theorem dX4_count_85 : decode cX4_count 85 = .ok (.getfield 10, 3) := by decide +kernel
theorem dX4_count_88 : decode cX4_count 88 = .ok (.iconst 3, 1) := by decide +kernel
theorem dX4_count_89 : decode cX4_count 89 = .ok (.invokevirtual 114, 3) := by decide +kernel
theorem dX4_count_92 : decode cX4_count 92 = .ok (.aload_n 0, 1) := by decide +kernel
theorem dX4_count_93 : decode cX4_count 93 = .ok (.getfield 19, 3) := by decide +kernel
theorem dX4_count_96 : decode cX4_count 96 = .ok (.invokevirtual 187, 3) := by decide +kernel
theorem dX4_count_99 : decode cX4_count 99 = .ok (.ireturn, 1) := by decide +kernel
theorem dX4_count_100 : decode cX4_count 100 = .ok (.aload_n 0, 1) := by decide +kernel
theorem dX4_count_101 : decode cX4_count 101 = .ok (.getfield 19, 3) := by decide +kernel
theorem dX4_count_104 : decode cX4_count 104 = .ok (.aload_n 0, 1) := by decide +kernel
theorem dX4_count_105 : decode cX4_count 105 = .ok (.getfield 10, 3) := by decide +kernel
theorem dX4_count_108 : decode cX4_count 108 = .ok (.iconst 3, 1) := by decide +kernel
theorem dX4_count_109 : decode cX4_count 109 = .ok (.invokevirtual 114, 3) := by decide +kernel
theorem dX4_count_112 : decode cX4_count 112 = .ok (.aload_n 0, 1) := by decide +kernel
theorem dX4_count_113 : decode cX4_count 113 = .ok (.getfield 19, 3) := by decide +kernel
theorem dX4_count_116 : decode cX4_count 116 = .ok (.invokevirtual 190, 3) := by decide +kernel
theorem dX4_count_119 : decode cX4_count 119 = .ok (.ireturn, 1) := by decide +kernel
theorem dX4_count_120 : decode cX4_count 120 = .ok (.aload_n 0, 1) := by decide +kernel
theorem dX4_count_121 : decode cX4_count 121 = .ok (.getfield 10, 3) := by decide +kernel
theorem dX4_count_124 : decode cX4_count 124 = .ok (.invokevirtual 193, 3) := by decide +kernel
theorem dX4_count_127 : decode cX4_count 127 = .ok (.ireturn, 1) := by decide +kernel
theorem dX4_count_128 : decode cX4_count 128 = .ok (.aload_n 0, 1) := by decide +kernel
theorem dX4_count_129 : decode cX4_count 129 = .ok (.getfield 19, 3) := by decide +kernel
theorem dX4_count_132 : decode cX4_count 132 = .ok (.aload_n 0, 1) := by decide +kernel
theorem dX4_count_133 : decode cX4_count 133 = .ok (.getfield 10, 3) := by decide +kernel
theorem dX4_count_136 : decode cX4_count 136 = .ok (.iconst 2, 1) := by decide +kernel
theorem dX4_count_137 : decode cX4_count 137 = .ok (.invokevirtual 114, 3) := by decide +kernel
theorem dX4_count_140 : decode cX4_count 140 = .ok (.aload_n 0, 1) := by decide +kernel
theorem dX4_count_141 : decode cX4_count 141 = .ok (.getfield 19, 3) := by decide +kernel
theorem dX4_count_144 : decode cX4_count 144 = .ok (.getfield 140, 3) := by decide +kernel
theorem dX4_count_147 : decode cX4_count 147 = .ok (.invokevirtual 165, 3) := by decide +kernel
theorem dX4_count_150 : decode cX4_count 150 = .ok (.ireturn, 1) := by decide +kernel
theorem dX4_count_151 : decode cX4_count 151 = .ok (.aload_n 0, 1) := by decide +kernel
theorem dX4_count_152 : decode cX4_count 152 = .ok (.getfield 19, 3) := by decide +kernel
theorem dX4_count_155 : decode cX4_count 155 = .ok (.aload_n 0, 1) := by decide +kernel
theorem dX4_count_156 : decode cX4_count 156 = .ok (.getfield 10, 3) := by decide +kernel
theorem dX4_count_159 : decode cX4_count 159 = .ok (.iconst 3, 1) := by decide +kernel
theorem dX4_count_160 : decode cX4_count 160 = .ok (.invokevirtual 114, 3) := by decide +kernel
theorem dX4_count_163 : decode cX4_count 163 = .ok (.aload_n 0, 1) := by decide +kernel
theorem dX4_count_164 : decode cX4_count 164 = .ok (.getfield 19, 3) := by decide +kernel
theorem dX4_count_167 : decode cX4_count 167 = .ok (.invokevirtual 196, 3) := by decide +kernel
theorem dX4_count_170 : decode cX4_count 170 = .ok (.ireturn, 1) := by decide +kernel
theorem dX4_count_171 : decode cX4_count 171 = .ok (.aload_n 0, 1) := by decide +kernel
theorem dX4_count_172 : decode cX4_count 172 = .ok (.getfield 10, 3) := by decide +kernel
theorem dX4_count_175 : decode cX4_count 175 = .ok (.getfield 199, 3) := by decide +kernel
theorem dX4_count_178 : decode cX4_count 178 = .ok (.ireturn, 1) := by decide +kernel
theorem dX4_count_179 : decode cX4_count 179 = .ok (.aload_n 0, 1) := by decide +kernel
theorem dX4_count_180 : decode cX4_count 180 = .ok (.getfield 10, 3) := by decide +kernel
theorem dX4_count_183 : decode cX4_count 183 = .ok (.getfield 162, 3) := by decide +kernel
theorem dX4_count_186 : decode cX4_count 186 = .ok (.ireturn, 1) := by decide +kernel
theorem dX4_count_187 : decode cX4_count 187 = .ok (.aload_n 0, 1) := by decide +kernel
theorem dX4_count_188 : decode cX4_count 188 = .ok (.getfield 10, 3) := by decide +kernel
theorem dX4_count_191 : decode cX4_count 191 = .ok (.getfield 31, 3) := by decide +kernel
theorem dX4_count_194 : decode cX4_count 194 = .ok (.ireturn, 1) := by decide +kernel
theorem dX4_count_195 : decode cX4_count 195 = .ok (.aload_n 0, 1) := by decide +kernel
theorem dX4_count_196 : decode cX4_count 196 = .ok (.getfield 10, 3) := by decide +kernel
theorem dX4_count_199 : decode cX4_count 199 = .ok (.getfield 35, 3) := by decide +kernel
theorem dX4_count_202 : decode cX4_count 202 = .ok (.ireturn, 1) := by decide +kernel
theorem dX4_count_203 : decode cX4_count 203 = .ok (.aload_n 0, 1) := by decide +kernel
theorem dX4_count_204 : decode cX4_count 204 = .ok (.getfield 10, 3) := by decide +kernel
theorem dX4_count_207 : decode cX4_count 207 = .ok (.getfield 178, 3) := by decide +kernel
theorem dX4_count_210 : decode cX4_count 210 = .ok (.ireturn, 1) := by decide +kernel
theorem dX4_count_211 : decode cX4_count 211 = .ok (.iconst (-1), 1) := by decide +kernel
theorem dX4_count_212 : decode cX4_count 212 = .ok (.ireturn, 1) := by decide +kernel
set_option maxRecDepth 20000 in
theorem ggX4_bare_X4_isInk : GoodIn wsX4_bare wsX4_isInk := goodIn_r _ [6, 7, 8, 5, 9] (by decide +kernel) (by decide +kernel)
set_option maxRecDepth 20000 in
theorem gX4_bare_X4_isInk : GoodIn wsX4_bare (va_wsS RX4 42 yX4_isInk wsX4_isInk) := goodIn_app (goodIn_of _ (by decide +kernel)) ggX4_bare_X4_isInk
set_option maxRecDepth 20000 in
theorem ggX4_bare_X4_isOff : GoodIn wsX4_bare wsX4_isOff := goodIn_r _ [12, 7, 8, 5, 9] (by decide +kernel) (by decide +kernel)
set_option maxRecDepth 20000 in
theorem gX4_bare_X4_isOff : GoodIn wsX4_bare (va_wsS RX4 169 yX4_isOff wsX4_isOff) := goodIn_app (goodIn_of _ (by decide +kernel)) ggX4_bare_X4_isOff
set_option maxRecDepth 20000 in
theorem ggX4_bare_X1_work : GoodIn wsX4_bare wsX1_work := goodIn_r _ [17, 18, 19, 20, 21, 16, 22, 23, 24, 25, 26, 27, 28, 29, 30, 31, 32, 33, 34, 35, 36, 37, 38, 39, 40, 41, 42, 43, 44, 8, 5, 9, 45, 46, 47, 48, 49, 50, 51, 52, 53, 54, 55, 56, 57, 58, 59, 60, 61, 62, 63, 64, 65, 66, 67, 68, 69, 70, 71, 72, 73, 74, 75, 76, 77, 78, 79, 80, 81, 82, 83, 84, 85, 86, 87, 88, 89, 90, 91, 92, 93, 94, 95, 96, 97, 98, 99, 100, 101, 102, 103, 104, 105, 106, 107, 108, 109, 110, 111, 112, 113, 114, 115, 116, 117, 118, 119, 120, 121, 122, 123, 124, 125, 126, 127, 128, 129, 130, 131, 132, 133, 134, 135, 136, 137, 138, 139, 140, 141, 142, 143, 144, 145, 146, 147, 148, 149, 150, 151, 152, 153, 154, 155, 156, 157, 158, 159, 160, 161, 162, 163, 164, 165, 166, 167, 168, 169, 188, 189, 190, 191, 192, 193, 194, 195, 196, 197, 198, 199, 200, 201, 202, 203, 204, 205, 206, 207, 208, 209, 210, 211, 212, 213, 214] (by decide +kernel) (by decide +kernel)
