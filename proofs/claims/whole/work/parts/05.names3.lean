set_option maxRecDepth 20000 in
theorem gX4_bare_X1_work : GoodIn wsX4_bare (wsV RX4 114 RX1 yX1_work wsX1_work) := goodIn_app (goodIn_of _ (by decide +kernel)) ggX4_bare_X1_work
set_option maxRecDepth 20000 in
theorem ggX4_bare_X1_bareCellsIf : GoodIn wsX4_bare wsX1_bareCellsIf := goodIn_r _ [173, 109, 25, 149, 142, 143, 35, 144, 37, 100, 101, 102, 103, 104, 174, 175, 176, 177, 141, 178, 179, 180, 181, 182, 183, 184, 188, 189, 190, 191, 192, 193, 194, 206, 207] (by decide +kernel) (by decide +kernel)
set_option maxRecDepth 20000 in
theorem gX4_bare_X1_bareCellsIf : GoodIn wsX4_bare (wsV RX4 202 RX1 yX1_bareCellsIf wsX1_bareCellsIf) := goodIn_app (goodIn_of _ (by decide +kernel)) ggX4_bare_X1_bareCellsIf
theorem dX4_bare_0 : decode cX4_bare 0 = .ok (.iload_n 1, 1) := by decide +kernel
theorem dX4_bare_1 : decode cX4_bare 1 = .ok (.invokestatic 42, 3) := by decide +kernel
theorem dX4_bare_4 : decode cX4_bare 4 = .ok (.ifCond .eq 11, 3) := by decide +kernel
theorem dX4_bare_7 : decode cX4_bare 7 = .ok (.iload_n 2, 1) := by decide +kernel
theorem dX4_bare_8 : decode cX4_bare 8 = .ok (.iload_n 3, 1) := by decide +kernel
theorem dX4_bare_9 : decode cX4_bare 9 = .ok (.invokestatic 169, 3) := by decide +kernel
theorem dX4_bare_12 : decode cX4_bare 12 = .ok (.ifCond .ne 5, 3) := by decide +kernel
theorem dX4_bare_15 : decode cX4_bare 15 = .ok (.iconst (-1), 1) := by decide +kernel
theorem dX4_bare_16 : decode cX4_bare 16 = .ok (.ireturn, 1) := by decide +kernel
theorem dX4_bare_17 : decode cX4_bare 17 = .ok (.aload_n 0, 1) := by decide +kernel
theorem dX4_bare_18 : decode cX4_bare 18 = .ok (.getfield 19, 3) := by decide +kernel
theorem dX4_bare_21 : decode cX4_bare 21 = .ok (.aload_n 0, 1) := by decide +kernel
theorem dX4_bare_22 : decode cX4_bare 22 = .ok (.getfield 10, 3) := by decide +kernel
theorem dX4_bare_25 : decode cX4_bare 25 = .ok (.iconst 2, 1) := by decide +kernel
theorem dX4_bare_26 : decode cX4_bare 26 = .ok (.invokevirtual 114, 3) := by decide +kernel
theorem dX4_bare_29 : decode cX4_bare 29 = .ok (.aload_n 0, 1) := by decide +kernel
theorem dX4_bare_30 : decode cX4_bare 30 = .ok (.getfield 19, 3) := by decide +kernel
theorem dX4_bare_33 : decode cX4_bare 33 = .ok (.iload_n 1, 1) := by decide +kernel
theorem dX4_bare_34 : decode cX4_bare 34 = .ok (.iload_n 2, 1) := by decide +kernel
theorem dX4_bare_35 : decode cX4_bare 35 = .ok (.iload_n 3, 1) := by decide +kernel
theorem dX4_bare_36 : decode cX4_bare 36 = .ok (.invokevirtual 202, 3) := by decide +kernel
theorem dX4_bare_39 : decode cX4_bare 39 = .ok (.ireturn, 1) := by decide +kernel
set_option maxRecDepth 20000 in
theorem ggX4_safe_X1_work : GoodIn wsX4_safe wsX1_work := goodIn_r _ [7, 8, 9, 10, 11, 6, 12, 13, 14, 15, 16, 17, 18, 19, 20, 21, 22, 23, 24, 25, 26, 27, 28, 29, 30, 31, 32, 33, 34, 35, 36, 37, 38, 39, 40, 41, 42, 43, 44, 45, 46, 47, 48, 49, 50, 51, 52, 53, 54, 55, 56, 57, 58, 59, 60, 61, 62, 63, 64, 65, 66, 67, 68, 69, 70, 71, 72, 73, 74, 75, 76, 77, 78, 79, 80, 81, 82, 83, 84, 85, 86, 87, 88, 89, 90, 91, 92, 93, 94, 95, 96, 97, 98, 99, 100, 101, 102, 103, 104, 105, 106, 107, 108, 109, 110, 111, 112, 113, 114, 115, 116, 117, 118, 119, 120, 121, 122, 123, 124, 125, 126, 127, 128, 129, 130, 131, 132, 133, 134, 135, 136, 137, 138, 139, 140, 141, 142, 143, 144, 145, 146, 147, 148, 149, 150, 151, 152, 153, 154, 155, 156, 157, 158, 159, 160, 161, 162, 178, 179, 180, 181, 182, 183, 184, 185, 186, 187, 188, 189, 190, 191, 192, 193, 194, 195, 196, 197, 198, 199, 200, 201, 202, 203, 204] (by decide +kernel) (by decide +kernel)
set_option maxRecDepth 20000 in
theorem gX4_safe_X1_work : GoodIn wsX4_safe (wsV RX4 114 RX1 yX1_work wsX1_work) := goodIn_app (goodIn_of _ (by decide +kernel)) ggX4_safe_X1_work
set_option maxRecDepth 20000 in
theorem ggX4_safe_X1_isSafe : GoodIn wsX4_safe wsX1_isSafe := goodIn_r _ [166, 16, 102, 167, 168, 169, 25, 170, 134, 135, 136, 137, 27, 93, 94, 95, 96, 97, 171, 172, 173, 174, 178, 179, 180, 181, 182, 183, 184, 196, 197] (by decide +kernel) (by decide +kernel)
set_option maxRecDepth 20000 in
theorem gX4_safe_X1_isSafe : GoodIn wsX4_safe (wsV RX4 205 RX1 yX1_isSafe wsX1_isSafe) := goodIn_app (goodIn_of _ (by decide +kernel)) ggX4_safe_X1_isSafe
theorem dX4_safe_0 : decode cX4_safe 0 = .ok (.aload_n 0, 1) := by decide +kernel
theorem dX4_safe_1 : decode cX4_safe 1 = .ok (.getfield 19, 3) := by decide +kernel
theorem dX4_safe_4 : decode cX4_safe 4 = .ok (.aload_n 0, 1) := by decide +kernel
theorem dX4_safe_5 : decode cX4_safe 5 = .ok (.getfield 10, 3) := by decide +kernel
theorem dX4_safe_8 : decode cX4_safe 8 = .ok (.iconst 2, 1) := by decide +kernel
theorem dX4_safe_9 : decode cX4_safe 9 = .ok (.invokevirtual 114, 3) := by decide +kernel
theorem dX4_safe_12 : decode cX4_safe 12 = .ok (.iconst 0, 1) := by decide +kernel
theorem dX4_safe_13 : decode cX4_safe 13 = .ok (.istore_n 1, 1) := by decide +kernel
theorem dX4_safe_14 : decode cX4_safe 14 = .ok (.iload_n 1, 1) := by decide +kernel
theorem dX4_safe_15 : decode cX4_safe 15 = .ok (.bipush 6, 2) := by decide +kernel
theorem dX4_safe_17 : decode cX4_safe 17 = .ok (.if_icmp .ge 22, 3) := by decide +kernel
theorem dX4_safe_20 : decode cX4_safe 20 = .ok (.aload_n 0, 1) := by decide +kernel
theorem dX4_safe_21 : decode cX4_safe 21 = .ok (.getfield 19, 3) := by decide +kernel
theorem dX4_safe_24 : decode cX4_safe 24 = .ok (.iload_n 1, 1) := by decide +kernel
theorem dX4_safe_25 : decode cX4_safe 25 = .ok (.iconst 1, 1) := by decide +kernel
theorem dX4_safe_26 : decode cX4_safe 26 = .ok (.iadd, 1) := by decide +kernel
theorem dX4_safe_27 : decode cX4_safe 27 = .ok (.invokevirtual 205, 3) := by decide +kernel
theorem dX4_safe_30 : decode cX4_safe 30 = .ok (.ifCond .eq 9, 3) := by decide +kernel
theorem dX4_safe_33 : decode cX4_safe 33 = .ok (.iinc 1 1, 3) := by decide +kernel
theorem dX4_safe_36 : decode cX4_safe 36 = .ok (.goto (-22), 3) := by decide +kernel
theorem dX4_safe_39 : decode cX4_safe 39 = .ok (.iload_n 1, 1) := by decide +kernel
theorem dX4_safe_40 : decode cX4_safe 40 = .ok (.ireturn, 1) := by decide +kernel
set_option maxRecDepth 20000 in
theorem ggX4_plate_X4_isInk : GoodIn wsX4_plate wsX4_isInk := goodIn_r _ [8, 9, 10, 7, 11] (by decide +kernel) (by decide +kernel)
set_option maxRecDepth 20000 in
theorem gX4_plate_X4_isInk : GoodIn wsX4_plate (va_wsS RX4 42 yX4_isInk wsX4_isInk) := goodIn_app (goodIn_of _ (by decide +kernel)) ggX4_plate_X4_isInk
set_option maxRecDepth 20000 in
theorem ggX4_plate_X4_isWithin : GoodIn wsX4_plate wsX4_isWithin := goodIn_r _ [11] (by decide +kernel) (by decide +kernel)
set_option maxRecDepth 20000 in
theorem gX4_plate_X4_isWithin : GoodIn wsX4_plate (va_wsS RX4 27 yX4_isWithin wsX4_isWithin) := goodIn_app (goodIn_of _ (by decide +kernel)) ggX4_plate_X4_isWithin
set_option maxRecDepth 20000 in
theorem ggX4_plate_X1_work : GoodIn wsX4_plate wsX1_work := goodIn_r _ [16, 17, 18, 19, 20, 15, 21, 22, 23, 24, 25, 26, 27, 28, 29, 30, 31, 32, 33, 34, 35, 36, 37, 38, 39, 40, 41, 42, 43, 10, 7, 11, 44, 45, 46, 47, 48, 49, 50, 51, 52, 53, 54, 55, 56, 57, 58, 59, 60, 61, 62, 63, 64, 65, 66, 67, 68, 69, 70, 71, 72, 73, 74, 75, 76, 77, 78, 79, 80, 81, 82, 83, 84, 85, 86, 87, 88, 89, 90, 91, 92, 93, 94, 95, 96, 97, 98, 99, 100, 101, 102, 103, 104, 105, 106, 107, 108, 109, 110, 111, 112, 113, 114, 115, 116, 117, 118, 119, 120, 121, 122, 123, 124, 125, 126, 127, 128, 129, 130, 131, 132, 133, 134, 135, 136, 137, 138, 139, 140, 141, 142, 143, 144, 145, 146, 147, 148, 149, 150, 151, 152, 153, 154, 155, 156, 157, 158, 159, 160, 161, 162, 163, 164, 165, 166, 167, 168, 184, 185, 186, 187, 188, 189, 190, 173, 174, 175, 176, 177, 178, 179, 180, 181, 182, 183, 191, 192, 193, 194, 195, 196, 197, 198, 199] (by decide +kernel) (by decide +kernel)
set_option maxRecDepth 20000 in
theorem gX4_plate_X1_work : GoodIn wsX4_plate (wsV RX4 114 RX1 yX1_work wsX1_work) := goodIn_app (goodIn_of _ (by decide +kernel)) ggX4_plate_X1_work
set_option maxRecDepth 20000 in
theorem ggX4_plate_X0_bits : GoodIn wsX4_plate wsX0_bits := goodIn_r _ [143, 36, 99, 100, 101, 34, 102, 103, 191, 192] (by decide +kernel) (by decide +kernel)
set_option maxRecDepth 20000 in
theorem gX4_plate_X0_bits : GoodIn wsX4_plate (wsV RX4 208 RX0 yX0_bits wsX0_bits) := goodIn_app (goodIn_of _ (by decide +kernel)) ggX4_plate_X0_bits
theorem dX4_plate_0 : decode cX4_plate 0 = .ok (.iload_n 1, 1) := by decide +kernel
theorem dX4_plate_1 : decode cX4_plate 1 = .ok (.invokestatic 42, 3) := by decide +kernel
theorem dX4_plate_4 : decode cX4_plate 4 = .ok (.ifCond .eq 20, 3) := by decide +kernel
theorem dX4_plate_7 : decode cX4_plate 7 = .ok (.iload_n 2, 1) := by decide +kernel
theorem dX4_plate_8 : decode cX4_plate 8 = .ok (.iconst 0, 1) := by decide +kernel
theorem dX4_plate_9 : decode cX4_plate 9 = .ok (.aload_n 0, 1) := by decide +kernel
theorem dX4_plate_10 : decode cX4_plate 10 = .ok (.getfield 10, 3) := by decide +kernel
theorem dX4_plate_13 : decode cX4_plate 13 = .ok (.getfield 31, 3) := by decide +kernel
theorem dX4_plate_16 : decode cX4_plate 16 = .ok (.iconst 1, 1) := by decide +kernel
theorem dX4_plate_17 : decode cX4_plate 17 = .ok (.isub, 1) := by decide +kernel
theorem dX4_plate_18 : decode cX4_plate 18 = .ok (.invokestatic 27, 3) := by decide +kernel
theorem dX4_plate_21 : decode cX4_plate 21 = .ok (.ifCond .ne 5, 3) := by decide +kernel
theorem dX4_plate_24 : decode cX4_plate 24 = .ok (.iconst (-1), 1) := by decide +kernel
theorem dX4_plate_25 : decode cX4_plate 25 = .ok (.ireturn, 1) := by decide +kernel
theorem dX4_plate_26 : decode cX4_plate 26 = .ok (.aload_n 0, 1) := by decide +kernel
theorem dX4_plate_27 : decode cX4_plate 27 = .ok (.getfield 19, 3) := by decide +kernel
theorem dX4_plate_30 : decode cX4_plate 30 = .ok (.aload_n 0, 1) := by decide +kernel
theorem dX4_plate_31 : decode cX4_plate 31 = .ok (.getfield 10, 3) := by decide +kernel
theorem dX4_plate_34 : decode cX4_plate 34 = .ok (.iconst 2, 1) := by decide +kernel
theorem dX4_plate_35 : decode cX4_plate 35 = .ok (.invokevirtual 114, 3) := by decide +kernel
theorem dX4_plate_38 : decode cX4_plate 38 = .ok (.aload_n 0, 1) := by decide +kernel
theorem dX4_plate_39 : decode cX4_plate 39 = .ok (.getfield 19, 3) := by decide +kernel
theorem dX4_plate_42 : decode cX4_plate 42 = .ok (.getfield 140, 3) := by decide +kernel
theorem dX4_plate_45 : decode cX4_plate 45 = .ok (.iload_n 1, 1) := by decide +kernel
theorem dX4_plate_46 : decode cX4_plate 46 = .ok (.iload_n 2, 1) := by decide +kernel
theorem dX4_plate_47 : decode cX4_plate 47 = .ok (.invokevirtual 208, 3) := by decide +kernel
theorem dX4_plate_50 : decode cX4_plate 50 = .ok (.ireturn, 1) := by decide +kernel
set_option maxRecDepth 20000 in
theorem ggX4_image_X4_isWithin : GoodIn wsX4_image wsX4_isWithin := goodIn_r _ [9] (by decide +kernel) (by decide +kernel)
set_option maxRecDepth 20000 in
theorem gX4_image_X4_isWithin : GoodIn wsX4_image (va_wsS RX4 27 yX4_isWithin wsX4_isWithin) := goodIn_app (goodIn_of _ (by decide +kernel)) ggX4_image_X4_isWithin
set_option maxRecDepth 20000 in
theorem ggX4_image_X3_init : GoodIn wsX4_image wsX3_init := goodIn_r _ [12, 13, 14, 15, 16, 17, 18, 19, 20, 21, 22, 23, 24, 40, 41, 42, 43, 44, 45, 46, 47, 48, 49, 50] (by decide +kernel) (by decide +kernel)
set_option maxRecDepth 20000 in
theorem gX4_image_X3_init : GoodIn wsX4_image (wsX3_init) := ggX4_image_X3_init
set_option maxRecDepth 20000 in
theorem ggX4_image_X3_become : GoodIn wsX4_image wsX3_become := goodIn_r _ [28, 16, 17, 29, 30, 31, 32, 19, 33, 34, 35, 36, 20, 21, 22, 24, 40, 41, 42, 43, 44, 45, 46, 47, 48, 49, 50] (by decide +kernel) (by decide +kernel)
set_option maxRecDepth 20000 in
theorem gX4_image_X3_become : GoodIn wsX4_image (wsV RX4 211 RX3 yX3_become wsX3_become) := goodIn_app (goodIn_of _ (by decide +kernel)) ggX4_image_X3_become
theorem dX4_image_0 : decode cX4_image 0 = .ok (.iload_n 1, 1) := by decide +kernel
theorem dX4_image_1 : decode cX4_image 1 = .ok (.iconst 0, 1) := by decide +kernel
theorem dX4_image_2 : decode cX4_image 2 = .ok (.iconst 3, 1) := by decide +kernel
theorem dX4_image_3 : decode cX4_image 3 = .ok (.invokestatic 27, 3) := by decide +kernel
theorem dX4_image_6 : decode cX4_image 6 = .ok (.ifCond .ne 5, 3) := by decide +kernel
theorem dX4_image_9 : decode cX4_image 9 = .ok (.iconst 0, 1) := by decide +kernel
theorem dX4_image_10 : decode cX4_image 10 = .ok (.ireturn, 1) := by decide +kernel
theorem dX4_image_11 : decode cX4_image 11 = .ok (.aload_n 0, 1) := by decide +kernel
theorem dX4_image_12 : decode cX4_image 12 = .ok (.getfield 23, 3) := by decide +kernel
theorem dX4_image_15 : decode cX4_image 15 = .ok (.iload_n 1, 1) := by decide +kernel
theorem dX4_image_16 : decode cX4_image 16 = .ok (.aaload, 1) := by decide +kernel
theorem dX4_image_17 : decode cX4_image 17 = .ok (.astore_n 2, 1) := by decide +kernel
theorem dX4_image_18 : decode cX4_image 18 = .ok (.aload_n 2, 1) := by decide +kernel
theorem dX4_image_19 : decode cX4_image 19 = .ok (.ifnonnull 18, 3) := by decide +kernel
theorem dX4_image_22 : decode cX4_image 22 = .ok (.new 7, 3) := by decide +kernel
theorem dX4_image_25 : decode cX4_image 25 = .ok (.dup, 1) := by decide +kernel
theorem dX4_image_26 : decode cX4_image 26 = .ok (.invokespecial 9, 3) := by decide +kernel
theorem dX4_image_29 : decode cX4_image 29 = .ok (.astore_n 2, 1) := by decide +kernel
theorem dX4_image_30 : decode cX4_image 30 = .ok (.aload_n 0, 1) := by decide +kernel
theorem dX4_image_31 : decode cX4_image 31 = .ok (.getfield 23, 3) := by decide +kernel
theorem dX4_image_34 : decode cX4_image 34 = .ok (.iload_n 1, 1) := by decide +kernel
theorem dX4_image_35 : decode cX4_image 35 = .ok (.aload_n 2, 1) := by decide +kernel
theorem dX4_image_36 : decode cX4_image 36 = .ok (.aastore, 1) := by decide +kernel
theorem dX4_image_37 : decode cX4_image 37 = .ok (.aload_n 2, 1) := by decide +kernel
theorem dX4_image_38 : decode cX4_image 38 = .ok (.aload_n 0, 1) := by decide +kernel
theorem dX4_image_39 : decode cX4_image 39 = .ok (.getfield 10, 3) := by decide +kernel
theorem dX4_image_42 : decode cX4_image 42 = .ok (.invokevirtual 211, 3) := by decide +kernel
theorem dX4_image_45 : decode cX4_image 45 = .ok (.iconst 1, 1) := by decide +kernel
theorem dX4_image_46 : decode cX4_image 46 = .ok (.ireturn, 1) := by decide +kernel
set_option maxRecDepth 20000 in
theorem ggX4_again_X4_isWithin : GoodIn wsX4_again wsX4_isWithin := goodIn_r _ [7] (by decide +kernel) (by decide +kernel)
set_option maxRecDepth 20000 in
theorem gX4_again_X4_isWithin : GoodIn wsX4_again (va_wsS RX4 27 yX4_isWithin wsX4_isWithin) := goodIn_app (goodIn_of _ (by decide +kernel)) ggX4_again_X4_isWithin
set_option maxRecDepth 20000 in
theorem ggX4_again_X3_become : GoodIn wsX4_again wsX3_become := goodIn_r _ [12, 13, 14, 15, 16, 17, 18, 19, 20, 21, 22, 23, 24, 25, 26, 27, 41, 42, 43, 44, 45, 46, 47, 48, 49, 50, 51] (by decide +kernel) (by decide +kernel)
set_option maxRecDepth 20000 in
theorem gX4_again_X3_become : GoodIn wsX4_again (wsV RX4 211 RX3 yX3_become wsX3_become) := goodIn_app (goodIn_of _ (by decide +kernel)) ggX4_again_X3_become
set_option maxRecDepth 20000 in
theorem ggX4_again_X1_keepOnly : GoodIn wsX4_again wsX1_keepOnly := goodIn_r _ [32, 33, 34, 35, 36, 37, 52, 53, 54, 55, 56, 57, 58] (by decide +kernel) (by decide +kernel)
set_option maxRecDepth 20000 in
theorem gX4_again_X1_keepOnly : GoodIn wsX4_again (wsV RX4 38 RX1 yX1_keepOnly wsX1_keepOnly) := goodIn_app (goodIn_of _ (by decide +kernel)) ggX4_again_X1_keepOnly
theorem dX4_again_0 : decode cX4_again 0 = .ok (.iload_n 1, 1) := by decide +kernel
theorem dX4_again_1 : decode cX4_again 1 = .ok (.iconst 0, 1) := by decide +kernel
theorem dX4_again_2 : decode cX4_again 2 = .ok (.iconst 3, 1) := by decide +kernel
theorem dX4_again_3 : decode cX4_again 3 = .ok (.invokestatic 27, 3) := by decide +kernel
theorem dX4_again_6 : decode cX4_again 6 = .ok (.ifCond .ne 5, 3) := by decide +kernel
theorem dX4_again_9 : decode cX4_again 9 = .ok (.iconst 0, 1) := by decide +kernel
theorem dX4_again_10 : decode cX4_again 10 = .ok (.ireturn, 1) := by decide +kernel
theorem dX4_again_11 : decode cX4_again 11 = .ok (.aload_n 0, 1) := by decide +kernel
theorem dX4_again_12 : decode cX4_again 12 = .ok (.getfield 23, 3) := by decide +kernel
theorem dX4_again_15 : decode cX4_again 15 = .ok (.iload_n 1, 1) := by decide +kernel
theorem dX4_again_16 : decode cX4_again 16 = .ok (.aaload, 1) := by decide +kernel
theorem dX4_again_17 : decode cX4_again 17 = .ok (.astore_n 2, 1) := by decide +kernel
theorem dX4_again_18 : decode cX4_again 18 = .ok (.aload_n 2, 1) := by decide +kernel
theorem dX4_again_19 : decode cX4_again 19 = .ok (.ifnonnull 5, 3) := by decide +kernel
theorem dX4_again_22 : decode cX4_again 22 = .ok (.iconst 0, 1) := by decide +kernel
theorem dX4_again_23 : decode cX4_again 23 = .ok (.ireturn, 1) := by decide +kernel
theorem dX4_again_24 : decode cX4_again 24 = .ok (.aload_n 0, 1) := by decide +kernel
theorem dX4_again_25 : decode cX4_again 25 = .ok (.getfield 10, 3) := by decide +kernel
theorem dX4_again_28 : decode cX4_again 28 = .ok (.aload_n 2, 1) := by decide +kernel
theorem dX4_again_29 : decode cX4_again 29 = .ok (.invokevirtual 211, 3) := by decide +kernel
theorem dX4_again_32 : decode cX4_again 32 = .ok (.aload_n 0, 1) := by decide +kernel
theorem dX4_again_33 : decode cX4_again 33 = .ok (.getfield 19, 3) := by decide +kernel
theorem dX4_again_36 : decode cX4_again 36 = .ok (.iconst 0, 1) := by decide +kernel
theorem dX4_again_37 : decode cX4_again 37 = .ok (.invokevirtual 38, 3) := by decide +kernel
theorem dX4_again_40 : decode cX4_again 40 = .ok (.iconst 1, 1) := by decide +kernel
theorem dX4_again_41 : decode cX4_again 41 = .ok (.ireturn, 1) := by decide +kernel
theorem dX4_isWithin_0 : decode cX4_isWithin 0 = .ok (.iload_n 0, 1) := by decide +kernel
theorem dX4_isWithin_1 : decode cX4_isWithin 1 = .ok (.iload_n 1, 1) := by decide +kernel
theorem dX4_isWithin_2 : decode cX4_isWithin 2 = .ok (.if_icmp .lt 12, 3) := by decide +kernel
theorem dX4_isWithin_5 : decode cX4_isWithin 5 = .ok (.iload_n 0, 1) := by decide +kernel
theorem dX4_isWithin_6 : decode cX4_isWithin 6 = .ok (.iload_n 2, 1) := by decide +kernel
theorem dX4_isWithin_7 : decode cX4_isWithin 7 = .ok (.if_icmp .gt 7, 3) := by decide +kernel
theorem dX4_isWithin_10 : decode cX4_isWithin 10 = .ok (.iconst 1, 1) := by decide +kernel
theorem dX4_isWithin_11 : decode cX4_isWithin 11 = .ok (.goto 4, 3) := by decide +kernel
theorem dX4_isWithin_14 : decode cX4_isWithin 14 = .ok (.iconst 0, 1) := by decide +kernel
theorem dX4_isWithin_15 : decode cX4_isWithin 15 = .ok (.ireturn, 1) := by decide +kernel
set_option maxRecDepth 20000 in
theorem ggX4_isInk_X4_isWithin : GoodIn wsX4_isInk wsX4_isWithin := goodIn_r _ [4] (by decide +kernel) (by decide +kernel)
set_option maxRecDepth 20000 in
theorem gX4_isInk_X4_isWithin : GoodIn wsX4_isInk (va_wsS RX4 27 yX4_isWithin wsX4_isWithin) := goodIn_app (goodIn_of _ (by decide +kernel)) ggX4_isInk_X4_isWithin
theorem dX4_isInk_0 : decode cX4_isInk 0 = .ok (.iload_n 0, 1) := by decide +kernel
theorem dX4_isInk_1 : decode cX4_isInk 1 = .ok (.iconst 0, 1) := by decide +kernel
theorem dX4_isInk_2 : decode cX4_isInk 2 = .ok (.iconst 3, 1) := by decide +kernel
theorem dX4_isInk_3 : decode cX4_isInk 3 = .ok (.invokestatic 27, 3) := by decide +kernel
theorem dX4_isInk_6 : decode cX4_isInk 6 = .ok (.ireturn, 1) := by decide +kernel
set_option maxRecDepth 20000 in
theorem ggX4_isColour_X4_isWithin : GoodIn wsX4_isColour wsX4_isWithin := goodIn_r _ [4] (by decide +kernel) (by decide +kernel)
set_option maxRecDepth 20000 in
theorem gX4_isColour_X4_isWithin : GoodIn wsX4_isColour (va_wsS RX4 27 yX4_isWithin wsX4_isWithin) := goodIn_app (goodIn_of _ (by decide +kernel)) ggX4_isColour_X4_isWithin
theorem dX4_isColour_0 : decode cX4_isColour 0 = .ok (.iload_n 0, 1) := by decide +kernel
theorem dX4_isColour_1 : decode cX4_isColour 1 = .ok (.iconst 0, 1) := by decide +kernel
theorem dX4_isColour_2 : decode cX4_isColour 2 = .ok (.bipush 15, 2) := by decide +kernel
theorem dX4_isColour_4 : decode cX4_isColour 4 = .ok (.invokestatic 27, 3) := by decide +kernel
theorem dX4_isColour_7 : decode cX4_isColour 7 = .ok (.ireturn, 1) := by decide +kernel
set_option maxRecDepth 20000 in
theorem ggX4_isPlace_X4_isWithin : GoodIn wsX4_isPlace wsX4_isWithin := goodIn_r _ [4] (by decide +kernel) (by decide +kernel)
set_option maxRecDepth 20000 in
theorem gX4_isPlace_X4_isWithin : GoodIn wsX4_isPlace (va_wsS RX4 27 yX4_isWithin wsX4_isWithin) := goodIn_app (goodIn_of _ (by decide +kernel)) ggX4_isPlace_X4_isWithin
theorem dX4_isPlace_0 : decode cX4_isPlace 0 = .ok (.iload_n 0, 1) := by decide +kernel
theorem dX4_isPlace_1 : decode cX4_isPlace 1 = .ok (.bipush (-16), 2) := by decide +kernel
theorem dX4_isPlace_3 : decode cX4_isPlace 3 = .ok (.bipush 31, 2) := by decide +kernel
theorem dX4_isPlace_5 : decode cX4_isPlace 5 = .ok (.invokestatic 27, 3) := by decide +kernel
theorem dX4_isPlace_8 : decode cX4_isPlace 8 = .ok (.ifCond .eq 18, 3) := by decide +kernel
theorem dX4_isPlace_11 : decode cX4_isPlace 11 = .ok (.iload_n 1, 1) := by decide +kernel
theorem dX4_isPlace_12 : decode cX4_isPlace 12 = .ok (.bipush (-16), 2) := by decide +kernel
theorem dX4_isPlace_14 : decode cX4_isPlace 14 = .ok (.bipush 31, 2) := by decide +kernel
theorem dX4_isPlace_16 : decode cX4_isPlace 16 = .ok (.invokestatic 27, 3) := by decide +kernel
theorem dX4_isPlace_19 : decode cX4_isPlace 19 = .ok (.ifCond .eq 7, 3) := by decide +kernel
theorem dX4_isPlace_22 : decode cX4_isPlace 22 = .ok (.iconst 1, 1) := by decide +kernel
theorem dX4_isPlace_23 : decode cX4_isPlace 23 = .ok (.goto 4, 3) := by decide +kernel
theorem dX4_isPlace_26 : decode cX4_isPlace 26 = .ok (.iconst 0, 1) := by decide +kernel
theorem dX4_isPlace_27 : decode cX4_isPlace 27 = .ok (.ireturn, 1) := by decide +kernel
set_option maxRecDepth 20000 in
theorem ggX4_isOff_X4_isWithin : GoodIn wsX4_isOff wsX4_isWithin := goodIn_r _ [4] (by decide +kernel) (by decide +kernel)
set_option maxRecDepth 20000 in
theorem gX4_isOff_X4_isWithin : GoodIn wsX4_isOff (va_wsS RX4 27 yX4_isWithin wsX4_isWithin) := goodIn_app (goodIn_of _ (by decide +kernel)) ggX4_isOff_X4_isWithin
theorem dX4_isOff_0 : decode cX4_isOff 0 = .ok (.iload_n 0, 1) := by decide +kernel
theorem dX4_isOff_1 : decode cX4_isOff 1 = .ok (.bipush (-6), 2) := by decide +kernel
theorem dX4_isOff_3 : decode cX4_isOff 3 = .ok (.bipush 6, 2) := by decide +kernel
theorem dX4_isOff_5 : decode cX4_isOff 5 = .ok (.invokestatic 27, 3) := by decide +kernel
theorem dX4_isOff_8 : decode cX4_isOff 8 = .ok (.ifCond .eq 18, 3) := by decide +kernel
theorem dX4_isOff_11 : decode cX4_isOff 11 = .ok (.iload_n 1, 1) := by decide +kernel
theorem dX4_isOff_12 : decode cX4_isOff 12 = .ok (.bipush (-6), 2) := by decide +kernel
theorem dX4_isOff_14 : decode cX4_isOff 14 = .ok (.bipush 6, 2) := by decide +kernel
theorem dX4_isOff_16 : decode cX4_isOff 16 = .ok (.invokestatic 27, 3) := by decide +kernel
theorem dX4_isOff_19 : decode cX4_isOff 19 = .ok (.ifCond .eq 7, 3) := by decide +kernel
theorem dX4_isOff_22 : decode cX4_isOff 22 = .ok (.iconst 1, 1) := by decide +kernel
theorem dX4_isOff_23 : decode cX4_isOff 23 = .ok (.goto 4, 3) := by decide +kernel
theorem dX4_isOff_26 : decode cX4_isOff 26 = .ok (.iconst 0, 1) := by decide +kernel
theorem dX4_isOff_27 : decode cX4_isOff 27 = .ok (.ireturn, 1) := by decide +kernel
theorem dX4_hasInk_0 : decode cX4_hasInk 0 = .ok (.iload_n 0, 1) := by decide +kernel
theorem dX4_hasInk_1 : decode cX4_hasInk 1 = .ok (.iload_n 1, 1) := by decide +kernel
theorem dX4_hasInk_2 : decode cX4_hasInk 2 = .ok (.ishr, 1) := by decide +kernel
theorem dX4_hasInk_3 : decode cX4_hasInk 3 = .ok (.iconst 1, 1) := by decide +kernel
theorem dX4_hasInk_4 : decode cX4_hasInk 4 = .ok (.iand, 1) := by decide +kernel
theorem dX4_hasInk_5 : decode cX4_hasInk 5 = .ok (.iconst 1, 1) := by decide +kernel
theorem dX4_hasInk_6 : decode cX4_hasInk 6 = .ok (.if_icmp .ne 7, 3) := by decide +kernel
theorem dX4_hasInk_9 : decode cX4_hasInk 9 = .ok (.iconst 1, 1) := by decide +kernel
theorem dX4_hasInk_10 : decode cX4_hasInk 10 = .ok (.goto 4, 3) := by decide +kernel
theorem dX4_hasInk_13 : decode cX4_hasInk 13 = .ok (.iconst 0, 1) := by decide +kernel
theorem dX4_hasInk_14 : decode cX4_hasInk 14 = .ok (.ireturn, 1) := by decide +kernel
theorem dX5_init_0 : decode cX5_init 0 = .ok (.aload_n 0, 1) := by decide +kernel
theorem dX5_init_1 : decode cX5_init 1 = .ok (.invokespecial 1, 3) := by decide +kernel
theorem dX5_init_4 : decode cX5_init 4 = .ok (.aload_n 0, 1) := by decide +kernel
theorem dX5_init_5 : decode cX5_init 5 = .ok (.iconst 5, 1) := by decide +kernel
theorem dX5_init_6 : decode cX5_init 6 = .ok (.newarray .int, 2) := by decide +kernel
theorem dX5_init_8 : decode cX5_init 8 = .ok (.putfield 7, 3) := by decide +kernel
theorem dX5_init_11 : decode cX5_init 11 = .ok (.aload_n 0, 1) := by decide +kernel
theorem dX5_init_12 : decode cX5_init 12 = .ok (.iconst 5, 1) := by decide +kernel
theorem dX5_init_13 : decode cX5_init 13 = .ok (.newarray .int, 2) := by decide +kernel
theorem dX5_init_15 : decode cX5_init 15 = .ok (.putfield 13, 3) := by decide +kernel
theorem dX5_init_18 : decode cX5_init 18 = .ok (.aload_n 0, 1) := by decide +kernel
theorem dX5_init_19 : decode cX5_init 19 = .ok (.bipush 20, 2) := by decide +kernel
theorem dX5_init_21 : decode cX5_init 21 = .ok (.newarray .int, 2) := by decide +kernel
theorem dX5_init_23 : decode cX5_init 23 = .ok (.putfield 16, 3) := by decide +kernel
theorem dX5_init_26 : decode cX5_init 26 = .ok (.aload_n 0, 1) := by decide +kernel
theorem dX5_init_27 : decode cX5_init 27 = .ok (.iconst 5, 1) := by decide +kernel
theorem dX5_init_28 : decode cX5_init 28 = .ok (.newarray .int, 2) := by decide +kernel
theorem dX5_init_30 : decode cX5_init 30 = .ok (.putfield 19, 3) := by decide +kernel
theorem dX5_init_33 : decode cX5_init 33 = .ok (.aload_n 0, 1) := by decide +kernel
theorem dX5_init_34 : decode cX5_init 34 = .ok (.iconst 5, 1) := by decide +kernel
theorem dX5_init_35 : decode cX5_init 35 = .ok (.newarray .int, 2) := by decide +kernel
theorem dX5_init_37 : decode cX5_init 37 = .ok (.putfield 22, 3) := by decide +kernel
theorem dX5_init_40 : decode cX5_init 40 = .ok (.aload_n 0, 1) := by decide +kernel
theorem dX5_init_41 : decode cX5_init 41 = .ok (.sipush 150, 3) := by decide +kernel
theorem dX5_init_44 : decode cX5_init 44 = .ok (.newarray .int, 2) := by decide +kernel
theorem dX5_init_46 : decode cX5_init 46 = .ok (.putfield 25, 3) := by decide +kernel
theorem dX5_init_49 : decode cX5_init 49 = .ok (.aload_n 0, 1) := by decide +kernel
theorem dX5_init_50 : decode cX5_init 50 = .ok (.sipush 150, 3) := by decide +kernel
theorem dX5_init_53 : decode cX5_init 53 = .ok (.newarray .int, 2) := by decide +kernel
theorem dX5_init_55 : decode cX5_init 55 = .ok (.putfield 28, 3) := by decide +kernel
theorem dX5_init_58 : decode cX5_init 58 = .ok (.aload_n 0, 1) := by decide +kernel
theorem dX5_init_59 : decode cX5_init 59 = .ok (.sipush 150, 3) := by decide +kernel
theorem dX5_init_62 : decode cX5_init 62 = .ok (.newarray .int, 2) := by decide +kernel
theorem dX5_init_64 : decode cX5_init 64 = .ok (.putfield 31, 3) := by decide +kernel
theorem dX5_init_67 : decode cX5_init 67 = .ok (.aload_n 0, 1) := by decide +kernel
theorem dX5_init_68 : decode cX5_init 68 = .ok (.sipush 150, 3) := by decide +kernel
theorem dX5_init_71 : decode cX5_init 71 = .ok (.newarray .int, 2) := by decide +kernel
theorem dX5_init_73 : decode cX5_init 73 = .ok (.putfield 34, 3) := by decide +kernel
theorem dX5_init_76 : decode cX5_init 76 = .ok (.aload_n 0, 1) := by decide +kernel
theorem dX5_init_77 : decode cX5_init 77 = .ok (.sipush 150, 3) := by decide +kernel
theorem dX5_init_80 : decode cX5_init 80 = .ok (.newarray .int, 2) := by decide +kernel
theorem dX5_init_82 : decode cX5_init 82 = .ok (.putfield 37, 3) := by decide +kernel
theorem dX5_init_85 : decode cX5_init 85 = .ok (.aload_n 0, 1) := by decide +kernel
theorem dX5_init_86 : decode cX5_init 86 = .ok (.sipush 150, 3) := by decide +kernel
theorem dX5_init_89 : decode cX5_init 89 = .ok (.newarray .int, 2) := by decide +kernel
theorem dX5_init_91 : decode cX5_init 91 = .ok (.putfield 40, 3) := by decide +kernel
theorem dX5_init_94 : decode cX5_init 94 = .ok (.aload_n 0, 1) := by decide +kernel
theorem dX5_init_95 : decode cX5_init 95 = .ok (.sipush 150, 3) := by decide +kernel
theorem dX5_init_98 : decode cX5_init 98 = .ok (.newarray .int, 2) := by decide +kernel
theorem dX5_init_100 : decode cX5_init 100 = .ok (.putfield 43, 3) := by decide +kernel
theorem dX5_init_103 : decode cX5_init 103 = .ok (.aload_n 0, 1) := by decide +kernel
theorem dX5_init_104 : decode cX5_init 104 = .ok (.sipush 150, 3) := by decide +kernel
theorem dX5_init_107 : decode cX5_init 107 = .ok (.newarray .int, 2) := by decide +kernel
theorem dX5_init_109 : decode cX5_init 109 = .ok (.putfield 46, 3) := by decide +kernel
theorem dX5_init_112 : decode cX5_init 112 = .ok (.aload_n 0, 1) := by decide +kernel
theorem dX5_init_113 : decode cX5_init 113 = .ok (.iconst 5, 1) := by decide +kernel
theorem dX5_init_114 : decode cX5_init 114 = .ok (.newarray .int, 2) := by decide +kernel
theorem dX5_init_116 : decode cX5_init 116 = .ok (.putfield 49, 3) := by decide +kernel
theorem dX5_init_119 : decode cX5_init 119 = .ok (.aload_n 0, 1) := by decide +kernel
theorem dX5_init_120 : decode cX5_init 120 = .ok (.bipush 20, 2) := by decide +kernel
theorem dX5_init_122 : decode cX5_init 122 = .ok (.newarray .int, 2) := by decide +kernel
theorem dX5_init_124 : decode cX5_init 124 = .ok (.putfield 52, 3) := by decide +kernel
theorem dX5_init_127 : decode cX5_init 127 = .ok (.aload_n 0, 1) := by decide +kernel
theorem dX5_init_128 : decode cX5_init 128 = .ok (.bipush 20, 2) := by decide +kernel
theorem dX5_init_130 : decode cX5_init 130 = .ok (.newarray .int, 2) := by decide +kernel
theorem dX5_init_132 : decode cX5_init 132 = .ok (.putfield 55, 3) := by decide +kernel
theorem dX5_init_135 : decode cX5_init 135 = .ok (.aload_n 0, 1) := by decide +kernel
theorem dX5_init_136 : decode cX5_init 136 = .ok (.iconst 5, 1) := by decide +kernel
theorem dX5_init_137 : decode cX5_init 137 = .ok (.newarray .int, 2) := by decide +kernel
theorem dX5_init_139 : decode cX5_init 139 = .ok (.putfield 58, 3) := by decide +kernel
theorem dX5_init_142 : decode cX5_init 142 = .ok (.aload_n 0, 1) := by decide +kernel
theorem dX5_init_143 : decode cX5_init 143 = .ok (.sipush 256, 3) := by decide +kernel
theorem dX5_init_146 : decode cX5_init 146 = .ok (.newarray .int, 2) := by decide +kernel
theorem dX5_init_148 : decode cX5_init 148 = .ok (.putfield 61, 3) := by decide +kernel
theorem dX5_init_151 : decode cX5_init 151 = .ok (.aload_n 0, 1) := by decide +kernel
theorem dX5_init_152 : decode cX5_init 152 = .ok (.sipush 256, 3) := by decide +kernel
theorem dX5_init_155 : decode cX5_init 155 = .ok (.newarray .int, 2) := by decide +kernel
theorem dX5_init_157 : decode cX5_init 157 = .ok (.putfield 64, 3) := by decide +kernel
theorem dX5_init_160 : decode cX5_init 160 = .ok (.aload_n 0, 1) := by decide +kernel
theorem dX5_init_161 : decode cX5_init 161 = .ok (.sipush 256, 3) := by decide +kernel
theorem dX5_init_164 : decode cX5_init 164 = .ok (.newarray .boolean, 2) := by decide +kernel
theorem dX5_init_166 : decode cX5_init 166 = .ok (.putfield 67, 3) := by decide +kernel
theorem dX5_init_169 : decode cX5_init 169 = .ok (.aload_n 0, 1) := by decide +kernel
theorem dX5_init_170 : decode cX5_init 170 = .ok (.sipush 256, 3) := by decide +kernel
theorem dX5_init_173 : decode cX5_init 173 = .ok (.newarray .int, 2) := by decide +kernel
theorem dX5_init_175 : decode cX5_init 175 = .ok (.putfield 71, 3) := by decide +kernel
theorem dX5_init_178 : decode cX5_init 178 = .ok (.aload_n 0, 1) := by decide +kernel
theorem dX5_init_179 : decode cX5_init 179 = .ok (.iconst 4, 1) := by decide +kernel
theorem dX5_init_180 : decode cX5_init 180 = .ok (.newarray .boolean, 2) := by decide +kernel
theorem dX5_init_182 : decode cX5_init 182 = .ok (.putfield 74, 3) := by decide +kernel
theorem dX5_init_185 : decode cX5_init 185 = .ok (.aload_n 0, 1) := by decide +kernel
theorem dX5_init_186 : decode cX5_init 186 = .ok (.getfield 7, 3) := by decide +kernel
theorem dX5_init_189 : decode cX5_init 189 = .ok (.iconst 0, 1) := by decide +kernel
theorem dX5_init_190 : decode cX5_init 190 = .ok (.bipush 8, 2) := by decide +kernel
theorem dX5_init_192 : decode cX5_init 192 = .ok (.iastore, 1) := by decide +kernel
theorem dX5_init_193 : decode cX5_init 193 = .ok (.aload_n 0, 1) := by decide +kernel
theorem dX5_init_194 : decode cX5_init 194 = .ok (.getfield 13, 3) := by decide +kernel
theorem dX5_init_197 : decode cX5_init 197 = .ok (.iconst 0, 1) := by decide +kernel
theorem dX5_init_198 : decode cX5_init 198 = .ok (.bipush 8, 2) := by decide +kernel
theorem dX5_init_200 : decode cX5_init 200 = .ok (.iastore, 1) := by decide +kernel
theorem dX5_init_201 : decode cX5_init 201 = .ok (.aload_n 0, 1) := by decide +kernel
theorem dX5_init_202 : decode cX5_init 202 = .ok (.getfield 16, 3) := by decide +kernel
theorem dX5_init_205 : decode cX5_init 205 = .ok (.iconst 0, 1) := by decide +kernel
theorem dX5_init_206 : decode cX5_init 206 = .ok (.iconst 1, 1) := by decide +kernel
theorem dX5_init_207 : decode cX5_init 207 = .ok (.iastore, 1) := by decide +kernel
theorem dX5_init_208 : decode cX5_init 208 = .ok (.aload_n 0, 1) := by decide +kernel
theorem dX5_init_209 : decode cX5_init 209 = .ok (.getfield 16, 3) := by decide +kernel
theorem dX5_init_212 : decode cX5_init 212 = .ok (.iconst 1, 1) := by decide +kernel
theorem dX5_init_213 : decode cX5_init 213 = .ok (.iconst 3, 1) := by decide +kernel
theorem dX5_init_214 : decode cX5_init 214 = .ok (.iastore, 1) := by decide +kernel
theorem dX5_init_215 : decode cX5_init 215 = .ok (.aload_n 0, 1) := by decide +kernel
theorem dX5_init_216 : decode cX5_init 216 = .ok (.getfield 16, 3) := by decide +kernel
theorem dX5_init_219 : decode cX5_init 219 = .ok (.iconst 2, 1) := by decide +kernel
theorem dX5_init_220 : decode cX5_init 220 = .ok (.iconst 4, 1) := by decide +kernel
theorem dX5_init_221 : decode cX5_init 221 = .ok (.iastore, 1) := by decide +kernel
theorem dX5_init_222 : decode cX5_init 222 = .ok (.aload_n 0, 1) := by decide +kernel
theorem dX5_init_223 : decode cX5_init 223 = .ok (.getfield 16, 3) := by decide +kernel
theorem dX5_init_226 : decode cX5_init 226 = .ok (.iconst 3, 1) := by decide +kernel
theorem dX5_init_227 : decode cX5_init 227 = .ok (.bipush 8, 2) := by decide +kernel
theorem dX5_init_229 : decode cX5_init 229 = .ok (.iastore, 1) := by decide +kernel
theorem dX5_init_230 : decode cX5_init 230 = .ok (.return_, 1) := by decide +kernel
theorem dX5_in_0 : decode cX5_in 0 = .ok (.iload_n 0, 1) := by decide +kernel
theorem dX5_in_1 : decode cX5_in 1 = .ok (.iload_n 1, 1) := by decide +kernel
theorem dX5_in_2 : decode cX5_in 2 = .ok (.if_icmp .lt 12, 3) := by decide +kernel
theorem dX5_in_5 : decode cX5_in 5 = .ok (.iload_n 0, 1) := by decide +kernel
theorem dX5_in_6 : decode cX5_in 6 = .ok (.iload_n 2, 1) := by decide +kernel
theorem dX5_in_7 : decode cX5_in 7 = .ok (.if_icmp .gt 7, 3) := by decide +kernel
theorem dX5_in_10 : decode cX5_in 10 = .ok (.iconst 1, 1) := by decide +kernel
theorem dX5_in_11 : decode cX5_in 11 = .ok (.goto 4, 3) := by decide +kernel
theorem dX5_in_14 : decode cX5_in 14 = .ok (.iconst 0, 1) := by decide +kernel
theorem dX5_in_15 : decode cX5_in 15 = .ok (.ireturn, 1) := by decide +kernel
theorem dX5_shift_0 : decode cX5_shift 0 = .ok (.iconst 0, 1) := by decide +kernel
theorem dX5_shift_1 : decode cX5_shift 1 = .ok (.istore 4, 2) := by decide +kernel
theorem dX5_shift_3 : decode cX5_shift 3 = .ok (.iload 4, 2) := by decide +kernel
theorem dX5_shift_5 : decode cX5_shift 5 = .ok (.iload_n 1, 1) := by decide +kernel
theorem dX5_shift_6 : decode cX5_shift 6 = .ok (.if_icmp .ge 25, 3) := by decide +kernel
theorem dX5_shift_9 : decode cX5_shift 9 = .ok (.aload_n 0, 1) := by decide +kernel
theorem dX5_shift_10 : decode cX5_shift 10 = .ok (.iload_n 1, 1) := by decide +kernel
theorem dX5_shift_11 : decode cX5_shift 11 = .ok (.iload_n 3, 1) := by decide +kernel
theorem dX5_shift_12 : decode cX5_shift 12 = .ok (.imul, 1) := by decide +kernel
theorem dX5_shift_13 : decode cX5_shift 13 = .ok (.iload 4, 2) := by decide +kernel
theorem dX5_shift_15 : decode cX5_shift 15 = .ok (.iadd, 1) := by decide +kernel
theorem dX5_shift_16 : decode cX5_shift 16 = .ok (.aload_n 0, 1) := by decide +kernel
theorem dX5_shift_17 : decode cX5_shift 17 = .ok (.iload_n 1, 1) := by decide +kernel
theorem dX5_shift_18 : decode cX5_shift 18 = .ok (.iload_n 2, 1) := by decide +kernel
theorem dX5_shift_19 : decode cX5_shift 19 = .ok (.imul, 1) := by decide +kernel
theorem dX5_shift_20 : decode cX5_shift 20 = .ok (.iload 4, 2) := by decide +kernel
theorem dX5_shift_22 : decode cX5_shift 22 = .ok (.iadd, 1) := by decide +kernel
theorem dX5_shift_23 : decode cX5_shift 23 = .ok (.iaload, 1) := by decide +kernel
theorem dX5_shift_24 : decode cX5_shift 24 = .ok (.iastore, 1) := by decide +kernel
theorem dX5_shift_25 : decode cX5_shift 25 = .ok (.iinc 4 1, 3) := by decide +kernel
theorem dX5_shift_28 : decode cX5_shift 28 = .ok (.goto (-25), 3) := by decide +kernel
theorem dX5_shift_31 : decode cX5_shift 31 = .ok (.return_, 1) := by decide +kernel
set_option maxRecDepth 20000 in
theorem ggX5_copy_X5_shift : GoodIn wsX5_copy wsX5_shift := goodIn_r _ [21] (by decide +kernel) (by decide +kernel)
set_option maxRecDepth 20000 in
theorem gX5_copy_X5_shift : GoodIn wsX5_copy (va_wsS RX5 81 yX5_shift wsX5_shift) := goodIn_app (goodIn_of _ (by decide +kernel)) ggX5_copy_X5_shift
theorem dX5_copy_0 : decode cX5_copy 0 = .ok (.aload_n 0, 1) := by decide +kernel
theorem dX5_copy_1 : decode cX5_copy 1 = .ok (.getfield 7, 3) := by decide +kernel
theorem dX5_copy_4 : decode cX5_copy 4 = .ok (.iconst 1, 1) := by decide +kernel
theorem dX5_copy_5 : decode cX5_copy 5 = .ok (.iload_n 1, 1) := by decide +kernel
theorem dX5_copy_6 : decode cX5_copy 6 = .ok (.iload_n 2, 1) := by decide +kernel
theorem dX5_copy_7 : decode cX5_copy 7 = .ok (.invokestatic 81, 3) := by decide +kernel
theorem dX5_copy_10 : decode cX5_copy 10 = .ok (.aload_n 0, 1) := by decide +kernel
theorem dX5_copy_11 : decode cX5_copy 11 = .ok (.getfield 13, 3) := by decide +kernel
theorem dX5_copy_14 : decode cX5_copy 14 = .ok (.iconst 1, 1) := by decide +kernel
theorem dX5_copy_15 : decode cX5_copy 15 = .ok (.iload_n 1, 1) := by decide +kernel
theorem dX5_copy_16 : decode cX5_copy 16 = .ok (.iload_n 2, 1) := by decide +kernel
theorem dX5_copy_17 : decode cX5_copy 17 = .ok (.invokestatic 81, 3) := by decide +kernel
theorem dX5_copy_20 : decode cX5_copy 20 = .ok (.aload_n 0, 1) := by decide +kernel
theorem dX5_copy_21 : decode cX5_copy 21 = .ok (.getfield 16, 3) := by decide +kernel
theorem dX5_copy_24 : decode cX5_copy 24 = .ok (.iconst 4, 1) := by decide +kernel
theorem dX5_copy_25 : decode cX5_copy 25 = .ok (.iload_n 1, 1) := by decide +kernel
theorem dX5_copy_26 : decode cX5_copy 26 = .ok (.iload_n 2, 1) := by decide +kernel
theorem dX5_copy_27 : decode cX5_copy 27 = .ok (.invokestatic 81, 3) := by decide +kernel
theorem dX5_copy_30 : decode cX5_copy 30 = .ok (.aload_n 0, 1) := by decide +kernel
theorem dX5_copy_31 : decode cX5_copy 31 = .ok (.getfield 19, 3) := by decide +kernel
theorem dX5_copy_34 : decode cX5_copy 34 = .ok (.iconst 1, 1) := by decide +kernel
theorem dX5_copy_35 : decode cX5_copy 35 = .ok (.iload_n 1, 1) := by decide +kernel
theorem dX5_copy_36 : decode cX5_copy 36 = .ok (.iload_n 2, 1) := by decide +kernel
theorem dX5_copy_37 : decode cX5_copy 37 = .ok (.invokestatic 81, 3) := by decide +kernel
theorem dX5_copy_40 : decode cX5_copy 40 = .ok (.aload_n 0, 1) := by decide +kernel
theorem dX5_copy_41 : decode cX5_copy 41 = .ok (.getfield 22, 3) := by decide +kernel
theorem dX5_copy_44 : decode cX5_copy 44 = .ok (.iconst 1, 1) := by decide +kernel
theorem dX5_copy_45 : decode cX5_copy 45 = .ok (.iload_n 1, 1) := by decide +kernel
theorem dX5_copy_46 : decode cX5_copy 46 = .ok (.iload_n 2, 1) := by decide +kernel
theorem dX5_copy_47 : decode cX5_copy 47 = .ok (.invokestatic 81, 3) := by decide +kernel
theorem dX5_copy_50 : decode cX5_copy 50 = .ok (.aload_n 0, 1) := by decide +kernel
theorem dX5_copy_51 : decode cX5_copy 51 = .ok (.getfield 25, 3) := by decide +kernel
theorem dX5_copy_54 : decode cX5_copy 54 = .ok (.bipush 30, 2) := by decide +kernel
theorem dX5_copy_56 : decode cX5_copy 56 = .ok (.iload_n 1, 1) := by decide +kernel
theorem dX5_copy_57 : decode cX5_copy 57 = .ok (.iload_n 2, 1) := by decide +kernel
theorem dX5_copy_58 : decode cX5_copy 58 = .ok (.invokestatic 81, 3) := by decide +kernel
theorem dX5_copy_61 : decode cX5_copy 61 = .ok (.aload_n 0, 1) := by decide +kernel
theorem dX5_copy_62 : decode cX5_copy 62 = .ok (.getfield 28, 3) := by decide +kernel
theorem dX5_copy_65 : decode cX5_copy 65 = .ok (.bipush 30, 2) := by decide +kernel
theorem dX5_copy_67 : decode cX5_copy 67 = .ok (.iload_n 1, 1) := by decide +kernel
theorem dX5_copy_68 : decode cX5_copy 68 = .ok (.iload_n 2, 1) := by decide +kernel
theorem dX5_copy_69 : decode cX5_copy 69 = .ok (.invokestatic 81, 3) := by decide +kernel
theorem dX5_copy_72 : decode cX5_copy 72 = .ok (.aload_n 0, 1) := by decide +kernel
theorem dX5_copy_73 : decode cX5_copy 73 = .ok (.getfield 31, 3) := by decide +kernel
theorem dX5_copy_76 : decode cX5_copy 76 = .ok (.bipush 30, 2) := by decide +kernel
theorem dX5_copy_78 : decode cX5_copy 78 = .ok (.iload_n 1, 1) := by decide +kernel
theorem dX5_copy_79 : decode cX5_copy 79 = .ok (.iload_n 2, 1) := by decide +kernel
theorem dX5_copy_80 : decode cX5_copy 80 = .ok (.invokestatic 81, 3) := by decide +kernel
theorem dX5_copy_83 : decode cX5_copy 83 = .ok (.aload_n 0, 1) := by decide +kernel
theorem dX5_copy_84 : decode cX5_copy 84 = .ok (.getfield 34, 3) := by decide +kernel
theorem dX5_copy_87 : decode cX5_copy 87 = .ok (.bipush 30, 2) := by decide +kernel
theorem dX5_copy_89 : decode cX5_copy 89 = .ok (.iload_n 1, 1) := by decide +kernel
theorem dX5_copy_90 : decode cX5_copy 90 = .ok (.iload_n 2, 1) := by decide +kernel
theorem dX5_copy_91 : decode cX5_copy 91 = .ok (.invokestatic 81, 3) := by decide +kernel
theorem dX5_copy_94 : decode cX5_copy 94 = .ok (.aload_n 0, 1) := by decide +kernel
theorem dX5_copy_95 : decode cX5_copy 95 = .ok (.getfield 37, 3) := by decide +kernel
theorem dX5_copy_98 : decode cX5_copy 98 = .ok (.bipush 30, 2) := by decide +kernel
theorem dX5_copy_100 : decode cX5_copy 100 = .ok (.iload_n 1, 1) := by decide +kernel
theorem dX5_copy_101 : decode cX5_copy 101 = .ok (.iload_n 2, 1) := by decide +kernel
theorem dX5_copy_102 : decode cX5_copy 102 = .ok (.invokestatic 81, 3) := by decide +kernel
theorem dX5_copy_105 : decode cX5_copy 105 = .ok (.aload_n 0, 1) := by decide +kernel
theorem dX5_copy_106 : decode cX5_copy 106 = .ok (.getfield 40, 3) := by decide +kernel
theorem dX5_copy_109 : decode cX5_copy 109 = .ok (.bipush 30, 2) := by decide +kernel
theorem dX5_copy_111 : decode cX5_copy 111 = .ok (.iload_n 1, 1) := by decide +kernel
theorem dX5_copy_112 : decode cX5_copy 112 = .ok (.iload_n 2, 1) := by decide +kernel
theorem dX5_copy_113 : decode cX5_copy 113 = .ok (.invokestatic 81, 3) := by decide +kernel
theorem dX5_copy_116 : decode cX5_copy 116 = .ok (.aload_n 0, 1) := by decide +kernel
theorem dX5_copy_117 : decode cX5_copy 117 = .ok (.getfield 43, 3) := by decide +kernel
theorem dX5_copy_120 : decode cX5_copy 120 = .ok (.bipush 30, 2) := by decide +kernel
theorem dX5_copy_122 : decode cX5_copy 122 = .ok (.iload_n 1, 1) := by decide +kernel
theorem dX5_copy_123 : decode cX5_copy 123 = .ok (.iload_n 2, 1) := by decide +kernel
theorem dX5_copy_124 : decode cX5_copy 124 = .ok (.invokestatic 81, 3) := by decide +kernel
theorem dX5_copy_127 : decode cX5_copy 127 = .ok (.aload_n 0, 1) := by decide +kernel
theorem dX5_copy_128 : decode cX5_copy 128 = .ok (.getfield 46, 3) := by decide +kernel
theorem dX5_copy_131 : decode cX5_copy 131 = .ok (.bipush 30, 2) := by decide +kernel
theorem dX5_copy_133 : decode cX5_copy 133 = .ok (.iload_n 1, 1) := by decide +kernel
theorem dX5_copy_134 : decode cX5_copy 134 = .ok (.iload_n 2, 1) := by decide +kernel
theorem dX5_copy_135 : decode cX5_copy 135 = .ok (.invokestatic 81, 3) := by decide +kernel
theorem dX5_copy_138 : decode cX5_copy 138 = .ok (.aload_n 0, 1) := by decide +kernel
theorem dX5_copy_139 : decode cX5_copy 139 = .ok (.getfield 49, 3) := by decide +kernel
theorem dX5_copy_142 : decode cX5_copy 142 = .ok (.iconst 1, 1) := by decide +kernel
theorem dX5_copy_143 : decode cX5_copy 143 = .ok (.iload_n 1, 1) := by decide +kernel
theorem dX5_copy_144 : decode cX5_copy 144 = .ok (.iload_n 2, 1) := by decide +kernel
theorem dX5_copy_145 : decode cX5_copy 145 = .ok (.invokestatic 81, 3) := by decide +kernel
theorem dX5_copy_148 : decode cX5_copy 148 = .ok (.aload_n 0, 1) := by decide +kernel
theorem dX5_copy_149 : decode cX5_copy 149 = .ok (.getfield 52, 3) := by decide +kernel
theorem dX5_copy_152 : decode cX5_copy 152 = .ok (.iconst 4, 1) := by decide +kernel
theorem dX5_copy_153 : decode cX5_copy 153 = .ok (.iload_n 1, 1) := by decide +kernel
theorem dX5_copy_154 : decode cX5_copy 154 = .ok (.iload_n 2, 1) := by decide +kernel
theorem dX5_copy_155 : decode cX5_copy 155 = .ok (.invokestatic 81, 3) := by decide +kernel
theorem dX5_copy_158 : decode cX5_copy 158 = .ok (.aload_n 0, 1) := by decide +kernel
theorem dX5_copy_159 : decode cX5_copy 159 = .ok (.getfield 55, 3) := by decide +kernel
theorem dX5_copy_162 : decode cX5_copy 162 = .ok (.iconst 4, 1) := by decide +kernel
theorem dX5_copy_163 : decode cX5_copy 163 = .ok (.iload_n 1, 1) := by decide +kernel
theorem dX5_copy_164 : decode cX5_copy 164 = .ok (.iload_n 2, 1) := by decide +kernel
theorem dX5_copy_165 : decode cX5_copy 165 = .ok (.invokestatic 81, 3) := by decide +kernel
theorem dX5_copy_168 : decode cX5_copy 168 = .ok (.aload_n 0, 1) := by decide +kernel
theorem dX5_copy_169 : decode cX5_copy 169 = .ok (.getfield 58, 3) := by decide +kernel
theorem dX5_copy_172 : decode cX5_copy 172 = .ok (.iconst 1, 1) := by decide +kernel
theorem dX5_copy_173 : decode cX5_copy 173 = .ok (.iload_n 1, 1) := by decide +kernel
theorem dX5_copy_174 : decode cX5_copy 174 = .ok (.iload_n 2, 1) := by decide +kernel
theorem dX5_copy_175 : decode cX5_copy 175 = .ok (.invokestatic 81, 3) := by decide +kernel
theorem dX5_copy_178 : decode cX5_copy 178 = .ok (.return_, 1) := by decide +kernel
theorem dX5_placeOf_0 : decode cX5_placeOf 0 = .ok (.iconst 0, 1) := by decide +kernel
theorem dX5_placeOf_1 : decode cX5_placeOf 1 = .ok (.istore_n 2, 1) := by decide +kernel
theorem dX5_placeOf_2 : decode cX5_placeOf 2 = .ok (.iload_n 2, 1) := by decide +kernel
theorem dX5_placeOf_3 : decode cX5_placeOf 3 = .ok (.aload_n 0, 1) := by decide +kernel
theorem dX5_placeOf_4 : decode cX5_placeOf 4 = .ok (.getfield 22, 3) := by decide +kernel
theorem dX5_placeOf_7 : decode cX5_placeOf 7 = .ok (.iconst 0, 1) := by decide +kernel
theorem dX5_placeOf_8 : decode cX5_placeOf 8 = .ok (.iaload, 1) := by decide +kernel
theorem dX5_placeOf_9 : decode cX5_placeOf 9 = .ok (.if_icmp .ge 21, 3) := by decide +kernel
theorem dX5_placeOf_12 : decode cX5_placeOf 12 = .ok (.aload_n 0, 1) := by decide +kernel
theorem dX5_placeOf_13 : decode cX5_placeOf 13 = .ok (.getfield 25, 3) := by decide +kernel
theorem dX5_placeOf_16 : decode cX5_placeOf 16 = .ok (.iload_n 2, 1) := by decide +kernel
theorem dX5_placeOf_17 : decode cX5_placeOf 17 = .ok (.iaload, 1) := by decide +kernel
theorem dX5_placeOf_18 : decode cX5_placeOf 18 = .ok (.iload_n 1, 1) := by decide +kernel
theorem dX5_placeOf_19 : decode cX5_placeOf 19 = .ok (.if_icmp .ne 5, 3) := by decide +kernel
theorem dX5_placeOf_22 : decode cX5_placeOf 22 = .ok (.iload_n 2, 1) := by decide +kernel
theorem dX5_placeOf_23 : decode cX5_placeOf 23 = .ok (.ireturn, 1) := by decide +kernel
theorem dX5_placeOf_24 : decode cX5_placeOf 24 = .ok (.iinc 2 1, 3) := by decide +kernel
theorem dX5_placeOf_27 : decode cX5_placeOf 27 = .ok (.goto (-25), 3) := by decide +kernel
theorem dX5_placeOf_30 : decode cX5_placeOf 30 = .ok (.iconst (-1), 1) := by decide +kernel
theorem dX5_placeOf_31 : decode cX5_placeOf 31 = .ok (.ireturn, 1) := by decide +kernel
set_option maxRecDepth 20000 in
theorem ggX5_page_X5_in : GoodIn wsX5_page wsX5_in := goodIn_r _ [8] (by decide +kernel) (by decide +kernel)
set_option maxRecDepth 20000 in
theorem gX5_page_X5_in : GoodIn wsX5_page (va_wsS RX5 85 yX5_in wsX5_in) := goodIn_app (goodIn_of _ (by decide +kernel)) ggX5_page_X5_in
theorem dX5_page_0 : decode cX5_page 0 = .ok (.aload_n 0, 1) := by decide +kernel
theorem dX5_page_1 : decode cX5_page 1 = .ok (.iconst 0, 1) := by decide +kernel
theorem dX5_page_2 : decode cX5_page 2 = .ok (.putfield 77, 3) := by decide +kernel
theorem dX5_page_5 : decode cX5_page 5 = .ok (.iload_n 1, 1) := by decide +kernel
theorem dX5_page_6 : decode cX5_page 6 = .ok (.iconst 1, 1) := by decide +kernel
theorem dX5_page_7 : decode cX5_page 7 = .ok (.bipush 16, 2) := by decide +kernel
theorem dX5_page_9 : decode cX5_page 9 = .ok (.invokestatic 85, 3) := by decide +kernel
theorem dX5_page_12 : decode cX5_page 12 = .ok (.ifCond .eq 13, 3) := by decide +kernel
theorem dX5_page_15 : decode cX5_page 15 = .ok (.iload_n 2, 1) := by decide +kernel
theorem dX5_page_16 : decode cX5_page 16 = .ok (.iconst 1, 1) := by decide +kernel
theorem dX5_page_17 : decode cX5_page 17 = .ok (.bipush 16, 2) := by decide +kernel
theorem dX5_page_19 : decode cX5_page 19 = .ok (.invokestatic 85, 3) := by decide +kernel
theorem dX5_page_22 : decode cX5_page 22 = .ok (.ifCond .ne 5, 3) := by decide +kernel
theorem dX5_page_25 : decode cX5_page 25 = .ok (.iconst 0, 1) := by decide +kernel
theorem dX5_page_26 : decode cX5_page 26 = .ok (.ireturn, 1) := by decide +kernel
theorem dX5_page_27 : decode cX5_page 27 = .ok (.aload_n 0, 1) := by decide +kernel
theorem dX5_page_28 : decode cX5_page 28 = .ok (.getfield 7, 3) := by decide +kernel
theorem dX5_page_31 : decode cX5_page 31 = .ok (.iconst 0, 1) := by decide +kernel
theorem dX5_page_32 : decode cX5_page 32 = .ok (.iload_n 1, 1) := by decide +kernel
theorem dX5_page_33 : decode cX5_page 33 = .ok (.iastore, 1) := by decide +kernel
theorem dX5_page_34 : decode cX5_page 34 = .ok (.aload_n 0, 1) := by decide +kernel
theorem dX5_page_35 : decode cX5_page 35 = .ok (.getfield 13, 3) := by decide +kernel
theorem dX5_page_38 : decode cX5_page 38 = .ok (.iconst 0, 1) := by decide +kernel
theorem dX5_page_39 : decode cX5_page 39 = .ok (.iload_n 2, 1) := by decide +kernel
theorem dX5_page_40 : decode cX5_page 40 = .ok (.iastore, 1) := by decide +kernel
theorem dX5_page_41 : decode cX5_page 41 = .ok (.aload_n 0, 1) := by decide +kernel
theorem dX5_page_42 : decode cX5_page 42 = .ok (.iconst 0, 1) := by decide +kernel
theorem dX5_page_43 : decode cX5_page 43 = .ok (.putfield 89, 3) := by decide +kernel
theorem dX5_page_46 : decode cX5_page 46 = .ok (.iconst 1, 1) := by decide +kernel
theorem dX5_page_47 : decode cX5_page 47 = .ok (.ireturn, 1) := by decide +kernel
set_option maxRecDepth 20000 in
theorem ggX5_weight_X5_in : GoodIn wsX5_weight wsX5_in := goodIn_r _ [7] (by decide +kernel) (by decide +kernel)
set_option maxRecDepth 20000 in
theorem gX5_weight_X5_in : GoodIn wsX5_weight (va_wsS RX5 85 yX5_in wsX5_in) := goodIn_app (goodIn_of _ (by decide +kernel)) ggX5_weight_X5_in
theorem dX5_weight_0 : decode cX5_weight 0 = .ok (.aload_n 0, 1) := by decide +kernel
theorem dX5_weight_1 : decode cX5_weight 1 = .ok (.iconst 0, 1) := by decide +kernel
theorem dX5_weight_2 : decode cX5_weight 2 = .ok (.putfield 77, 3) := by decide +kernel
theorem dX5_weight_5 : decode cX5_weight 5 = .ok (.iload_n 1, 1) := by decide +kernel
theorem dX5_weight_6 : decode cX5_weight 6 = .ok (.iconst 0, 1) := by decide +kernel
theorem dX5_weight_7 : decode cX5_weight 7 = .ok (.iconst 3, 1) := by decide +kernel
theorem dX5_weight_8 : decode cX5_weight 8 = .ok (.invokestatic 85, 3) := by decide +kernel
theorem dX5_weight_11 : decode cX5_weight 11 = .ok (.ifCond .eq 13, 3) := by decide +kernel
theorem dX5_weight_14 : decode cX5_weight 14 = .ok (.iload_n 2, 1) := by decide +kernel
theorem dX5_weight_15 : decode cX5_weight 15 = .ok (.iconst 0, 1) := by decide +kernel
theorem dX5_weight_16 : decode cX5_weight 16 = .ok (.bipush 20, 2) := by decide +kernel
theorem dX5_weight_18 : decode cX5_weight 18 = .ok (.invokestatic 85, 3) := by decide +kernel
theorem dX5_weight_21 : decode cX5_weight 21 = .ok (.ifCond .ne 5, 3) := by decide +kernel
theorem dX5_weight_24 : decode cX5_weight 24 = .ok (.iconst 0, 1) := by decide +kernel
theorem dX5_weight_25 : decode cX5_weight 25 = .ok (.ireturn, 1) := by decide +kernel
theorem dX5_weight_26 : decode cX5_weight 26 = .ok (.aload_n 0, 1) := by decide +kernel
theorem dX5_weight_27 : decode cX5_weight 27 = .ok (.getfield 16, 3) := by decide +kernel
theorem dX5_weight_30 : decode cX5_weight 30 = .ok (.iload_n 1, 1) := by decide +kernel
theorem dX5_weight_31 : decode cX5_weight 31 = .ok (.iload_n 2, 1) := by decide +kernel
theorem dX5_weight_32 : decode cX5_weight 32 = .ok (.iastore, 1) := by decide +kernel
theorem dX5_weight_33 : decode cX5_weight 33 = .ok (.aload_n 0, 1) := by decide +kernel
theorem dX5_weight_34 : decode cX5_weight 34 = .ok (.iconst 0, 1) := by decide +kernel
theorem dX5_weight_35 : decode cX5_weight 35 = .ok (.putfield 89, 3) := by decide +kernel
theorem dX5_weight_38 : decode cX5_weight 38 = .ok (.iconst 1, 1) := by decide +kernel
theorem dX5_weight_39 : decode cX5_weight 39 = .ok (.ireturn, 1) := by decide +kernel
set_option maxRecDepth 20000 in
theorem ggX5_mayLie_X5_in : GoodIn wsX5_mayLie wsX5_in := goodIn_r _ [4] (by decide +kernel) (by decide +kernel)
set_option maxRecDepth 20000 in
theorem gX5_mayLie_X5_in : GoodIn wsX5_mayLie (va_wsS RX5 85 yX5_in wsX5_in) := goodIn_app (goodIn_of _ (by decide +kernel)) ggX5_mayLie_X5_in
theorem dX5_mayLie_0 : decode cX5_mayLie 0 = .ok (.iload_n 0, 1) := by decide +kernel
theorem dX5_mayLie_1 : decode cX5_mayLie 1 = .ok (.bipush (-16), 2) := by decide +kernel
theorem dX5_mayLie_3 : decode cX5_mayLie 3 = .ok (.bipush 31, 2) := by decide +kernel
theorem dX5_mayLie_5 : decode cX5_mayLie 5 = .ok (.invokestatic 85, 3) := by decide +kernel
theorem dX5_mayLie_8 : decode cX5_mayLie 8 = .ok (.ifCond .eq 18, 3) := by decide +kernel
theorem dX5_mayLie_11 : decode cX5_mayLie 11 = .ok (.iload_n 1, 1) := by decide +kernel
theorem dX5_mayLie_12 : decode cX5_mayLie 12 = .ok (.bipush (-16), 2) := by decide +kernel
theorem dX5_mayLie_14 : decode cX5_mayLie 14 = .ok (.bipush 31, 2) := by decide +kernel
theorem dX5_mayLie_16 : decode cX5_mayLie 16 = .ok (.invokestatic 85, 3) := by decide +kernel
theorem dX5_mayLie_19 : decode cX5_mayLie 19 = .ok (.ifCond .eq 7, 3) := by decide +kernel
theorem dX5_mayLie_22 : decode cX5_mayLie 22 = .ok (.iconst 1, 1) := by decide +kernel
theorem dX5_mayLie_23 : decode cX5_mayLie 23 = .ok (.goto 4, 3) := by decide +kernel
theorem dX5_mayLie_26 : decode cX5_mayLie 26 = .ok (.iconst 0, 1) := by decide +kernel
theorem dX5_mayLie_27 : decode cX5_mayLie 27 = .ok (.ireturn, 1) := by decide +kernel
set_option maxRecDepth 20000 in
theorem ggX5_shape_X5_in : GoodIn wsX5_shape wsX5_in := goodIn_r _ [16] (by decide +kernel) (by decide +kernel)
set_option maxRecDepth 20000 in
theorem gX5_shape_X5_in : GoodIn wsX5_shape (va_wsS RX5 85 yX5_in wsX5_in) := goodIn_app (goodIn_of _ (by decide +kernel)) ggX5_shape_X5_in
set_option maxRecDepth 20000 in
theorem ggX5_shape_X5_mayLie : GoodIn wsX5_shape wsX5_mayLie := goodIn_r _ [19, 13, 14, 15, 16] (by decide +kernel) (by decide +kernel)
set_option maxRecDepth 20000 in
theorem gX5_shape_X5_mayLie : GoodIn wsX5_shape (va_wsS RX5 93 yX5_mayLie wsX5_mayLie) := goodIn_app (goodIn_of _ (by decide +kernel)) ggX5_shape_X5_mayLie
theorem dX5_shape_0 : decode cX5_shape 0 = .ok (.aload_n 0, 1) := by decide +kernel
theorem dX5_shape_1 : decode cX5_shape 1 = .ok (.iconst 0, 1) := by decide +kernel
theorem dX5_shape_2 : decode cX5_shape 2 = .ok (.putfield 77, 3) := by decide +kernel
theorem dX5_shape_5 : decode cX5_shape 5 = .ok (.aload_n 0, 1) := by decide +kernel
theorem dX5_shape_6 : decode cX5_shape 6 = .ok (.getfield 19, 3) := by decide +kernel
theorem dX5_shape_9 : decode cX5_shape 9 = .ok (.iconst 0, 1) := by decide +kernel
theorem dX5_shape_10 : decode cX5_shape 10 = .ok (.iaload, 1) := by decide +kernel
theorem dX5_shape_11 : decode cX5_shape 11 = .ok (.bipush 30, 2) := by decide +kernel
theorem dX5_shape_13 : decode cX5_shape 13 = .ok (.if_icmp .eq 53, 3) := by decide +kernel
theorem dX5_shape_16 : decode cX5_shape 16 = .ok (.iload_n 1, 1) := by decide +kernel
theorem dX5_shape_17 : decode cX5_shape 17 = .ok (.iconst 0, 1) := by decide +kernel
theorem dX5_shape_18 : decode cX5_shape 18 = .ok (.iconst 3, 1) := by decide +kernel
theorem dX5_shape_19 : decode cX5_shape 19 = .ok (.invokestatic 85, 3) := by decide +kernel
theorem dX5_shape_22 : decode cX5_shape 22 = .ok (.ifCond .eq 44, 3) := by decide +kernel
theorem dX5_shape_25 : decode cX5_shape 25 = .ok (.iload_n 2, 1) := by decide +kernel
theorem dX5_shape_26 : decode cX5_shape 26 = .ok (.iload_n 3, 1) := by decide +kernel
theorem dX5_shape_27 : decode cX5_shape 27 = .ok (.invokestatic 93, 3) := by decide +kernel
theorem dX5_shape_30 : decode cX5_shape 30 = .ok (.ifCond .eq 36, 3) := by decide +kernel
theorem dX5_shape_33 : decode cX5_shape 33 = .ok (.iload 4, 2) := by decide +kernel
theorem dX5_shape_35 : decode cX5_shape 35 = .ok (.iconst 1, 1) := by decide +kernel
theorem dX5_shape_36 : decode cX5_shape 36 = .ok (.bipush 32, 2) := by decide +kernel
theorem dX5_shape_38 : decode cX5_shape 38 = .ok (.invokestatic 85, 3) := by decide +kernel
theorem dX5_shape_41 : decode cX5_shape 41 = .ok (.ifCond .eq 25, 3) := by decide +kernel
theorem dX5_shape_44 : decode cX5_shape 44 = .ok (.iload 5, 2) := by decide +kernel
theorem dX5_shape_46 : decode cX5_shape 46 = .ok (.iconst 1, 1) := by decide +kernel
theorem dX5_shape_47 : decode cX5_shape 47 = .ok (.bipush 32, 2) := by decide +kernel
theorem dX5_shape_49 : decode cX5_shape 49 = .ok (.invokestatic 85, 3) := by decide +kernel
theorem dX5_shape_52 : decode cX5_shape 52 = .ok (.ifCond .eq 14, 3) := by decide +kernel
theorem dX5_shape_55 : decode cX5_shape 55 = .ok (.iload 6, 2) := by decide +kernel
theorem dX5_shape_57 : decode cX5_shape 57 = .ok (.iconst 0, 1) := by decide +kernel
theorem dX5_shape_58 : decode cX5_shape 58 = .ok (.bipush 15, 2) := by decide +kernel
theorem dX5_shape_60 : decode cX5_shape 60 = .ok (.invokestatic 85, 3) := by decide +kernel
theorem dX5_shape_63 : decode cX5_shape 63 = .ok (.ifCond .ne 5, 3) := by decide +kernel
theorem dX5_shape_66 : decode cX5_shape 66 = .ok (.iconst (-1), 1) := by decide +kernel
theorem dX5_shape_67 : decode cX5_shape 67 = .ok (.ireturn, 1) := by decide +kernel
theorem dX5_shape_68 : decode cX5_shape 68 = .ok (.aload_n 0, 1) := by decide +kernel
theorem dX5_shape_69 : decode cX5_shape 69 = .ok (.getfield 19, 3) := by decide +kernel
theorem dX5_shape_72 : decode cX5_shape 72 = .ok (.iconst 0, 1) := by decide +kernel
theorem dX5_shape_73 : decode cX5_shape 73 = .ok (.iaload, 1) := by decide +kernel
theorem dX5_shape_74 : decode cX5_shape 74 = .ok (.istore 8, 2) := by decide +kernel
theorem dX5_shape_76 : decode cX5_shape 76 = .ok (.aload_n 0, 1) := by decide +kernel
theorem dX5_shape_77 : decode cX5_shape 77 = .ok (.getfield 19, 3) := by decide +kernel
theorem dX5_shape_80 : decode cX5_shape 80 = .ok (.iconst 0, 1) := by decide +kernel
theorem dX5_shape_81 : decode cX5_shape 81 = .ok (.dup2, 1) := by decide +kernel
theorem dX5_shape_82 : decode cX5_shape 82 = .ok (.iaload, 1) := by decide +kernel
theorem dX5_shape_83 : decode cX5_shape 83 = .ok (.iconst 1, 1) := by decide +kernel
theorem dX5_shape_84 : decode cX5_shape 84 = .ok (.iadd, 1) := by decide +kernel
theorem dX5_shape_85 : decode cX5_shape 85 = .ok (.iastore, 1) := by decide +kernel
theorem dX5_shape_86 : decode cX5_shape 86 = .ok (.aload_n 0, 1) := by decide +kernel
theorem dX5_shape_87 : decode cX5_shape 87 = .ok (.getfield 28, 3) := by decide +kernel
theorem dX5_shape_90 : decode cX5_shape 90 = .ok (.iload 8, 2) := by decide +kernel
theorem dX5_shape_92 : decode cX5_shape 92 = .ok (.iload_n 1, 1) := by decide +kernel
theorem dX5_shape_93 : decode cX5_shape 93 = .ok (.iastore, 1) := by decide +kernel
theorem dX5_shape_94 : decode cX5_shape 94 = .ok (.aload_n 0, 1) := by decide +kernel
theorem dX5_shape_95 : decode cX5_shape 95 = .ok (.getfield 31, 3) := by decide +kernel
theorem dX5_shape_98 : decode cX5_shape 98 = .ok (.iload 8, 2) := by decide +kernel
theorem dX5_shape_100 : decode cX5_shape 100 = .ok (.iload_n 2, 1) := by decide +kernel
theorem dX5_shape_101 : decode cX5_shape 101 = .ok (.iastore, 1) := by decide +kernel
theorem dX5_shape_102 : decode cX5_shape 102 = .ok (.aload_n 0, 1) := by decide +kernel
theorem dX5_shape_103 : decode cX5_shape 103 = .ok (.getfield 34, 3) := by decide +kernel
theorem dX5_shape_106 : decode cX5_shape 106 = .ok (.iload 8, 2) := by decide +kernel
theorem dX5_shape_108 : decode cX5_shape 108 = .ok (.iload_n 3, 1) := by decide +kernel
theorem dX5_shape_109 : decode cX5_shape 109 = .ok (.iastore, 1) := by decide +kernel
theorem dX5_shape_110 : decode cX5_shape 110 = .ok (.aload_n 0, 1) := by decide +kernel
theorem dX5_shape_111 : decode cX5_shape 111 = .ok (.getfield 37, 3) := by decide +kernel
theorem dX5_shape_114 : decode cX5_shape 114 = .ok (.iload 8, 2) := by decide +kernel
theorem dX5_shape_116 : decode cX5_shape 116 = .ok (.iload 4, 2) := by decide +kernel
theorem dX5_shape_118 : decode cX5_shape 118 = .ok (.iastore, 1) := by decide +kernel
theorem dX5_shape_119 : decode cX5_shape 119 = .ok (.aload_n 0, 1) := by decide +kernel
theorem dX5_shape_120 : decode cX5_shape 120 = .ok (.getfield 40, 3) := by decide +kernel
theorem dX5_shape_123 : decode cX5_shape 123 = .ok (.iload 8, 2) := by decide +kernel
theorem dX5_shape_125 : decode cX5_shape 125 = .ok (.iload 5, 2) := by decide +kernel
theorem dX5_shape_127 : decode cX5_shape 127 = .ok (.iastore, 1) := by decide +kernel
theorem dX5_shape_128 : decode cX5_shape 128 = .ok (.aload_n 0, 1) := by decide +kernel
theorem dX5_shape_129 : decode cX5_shape 129 = .ok (.getfield 43, 3) := by decide +kernel
theorem dX5_shape_132 : decode cX5_shape 132 = .ok (.iload 8, 2) := by decide +kernel
theorem dX5_shape_134 : decode cX5_shape 134 = .ok (.iload 6, 2) := by decide +kernel
theorem dX5_shape_136 : decode cX5_shape 136 = .ok (.iastore, 1) := by decide +kernel
theorem dX5_shape_137 : decode cX5_shape 137 = .ok (.aload_n 0, 1) := by decide +kernel
theorem dX5_shape_138 : decode cX5_shape 138 = .ok (.getfield 46, 3) := by decide +kernel
theorem dX5_shape_141 : decode cX5_shape 141 = .ok (.iload 8, 2) := by decide +kernel
theorem dX5_shape_143 : decode cX5_shape 143 = .ok (.iload 7, 2) := by decide +kernel
theorem dX5_shape_145 : decode cX5_shape 145 = .ok (.ifCond .eq 7, 3) := by decide +kernel
theorem dX5_shape_148 : decode cX5_shape 148 = .ok (.iconst 1, 1) := by decide +kernel
theorem dX5_shape_149 : decode cX5_shape 149 = .ok (.goto 4, 3) := by decide +kernel
theorem dX5_shape_152 : decode cX5_shape 152 = .ok (.iconst 0, 1) := by decide +kernel
theorem dX5_shape_153 : decode cX5_shape 153 = .ok (.iastore, 1) := by decide +kernel
theorem dX5_shape_154 : decode cX5_shape 154 = .ok (.aload_n 0, 1) := by decide +kernel
theorem dX5_shape_155 : decode cX5_shape 155 = .ok (.getfield 25, 3) := by decide +kernel
theorem dX5_shape_158 : decode cX5_shape 158 = .ok (.aload_n 0, 1) := by decide +kernel
theorem dX5_shape_159 : decode cX5_shape 159 = .ok (.getfield 22, 3) := by decide +kernel
theorem dX5_shape_162 : decode cX5_shape 162 = .ok (.iconst 0, 1) := by decide +kernel
theorem dX5_shape_163 : decode cX5_shape 163 = .ok (.iaload, 1) := by decide +kernel
theorem dX5_shape_164 : decode cX5_shape 164 = .ok (.iload 8, 2) := by decide +kernel
theorem dX5_shape_166 : decode cX5_shape 166 = .ok (.iastore, 1) := by decide +kernel
theorem dX5_shape_167 : decode cX5_shape 167 = .ok (.aload_n 0, 1) := by decide +kernel
theorem dX5_shape_168 : decode cX5_shape 168 = .ok (.getfield 22, 3) := by decide +kernel
theorem dX5_shape_171 : decode cX5_shape 171 = .ok (.iconst 0, 1) := by decide +kernel
theorem dX5_shape_172 : decode cX5_shape 172 = .ok (.dup2, 1) := by decide +kernel
theorem dX5_shape_173 : decode cX5_shape 173 = .ok (.iaload, 1) := by decide +kernel
theorem dX5_shape_174 : decode cX5_shape 174 = .ok (.iconst 1, 1) := by decide +kernel
theorem dX5_shape_175 : decode cX5_shape 175 = .ok (.iadd, 1) := by decide +kernel
theorem dX5_shape_176 : decode cX5_shape 176 = .ok (.iastore, 1) := by decide +kernel
theorem dX5_shape_177 : decode cX5_shape 177 = .ok (.aload_n 0, 1) := by decide +kernel
theorem dX5_shape_178 : decode cX5_shape 178 = .ok (.iconst 0, 1) := by decide +kernel
theorem dX5_shape_179 : decode cX5_shape 179 = .ok (.putfield 89, 3) := by decide +kernel
theorem dX5_shape_182 : decode cX5_shape 182 = .ok (.iload 8, 2) := by decide +kernel
theorem dX5_shape_184 : decode cX5_shape 184 = .ok (.ireturn, 1) := by decide +kernel
set_option maxRecDepth 20000 in
theorem ggX5_take_X5_placeOf : GoodIn wsX5_take wsX5_placeOf := goodIn_r _ [9, 2, 3, 10, 11, 12, 13, 14, 15, 16, 17, 18, 19, 20, 21, 22, 23, 24, 25, 26, 27, 28, 29, 30, 31, 32, 33] (by decide +kernel) (by decide +kernel)
set_option maxRecDepth 20000 in
theorem gX5_take_X5_placeOf : GoodIn wsX5_take (wsV RX5 97 RX5 yX5_placeOf wsX5_placeOf) := goodIn_app (goodIn_of _ (by decide +kernel)) ggX5_take_X5_placeOf
theorem dX5_take_0 : decode cX5_take 0 = .ok (.aload_n 0, 1) := by decide +kernel
theorem dX5_take_1 : decode cX5_take 1 = .ok (.iconst 0, 1) := by decide +kernel
theorem dX5_take_2 : decode cX5_take 2 = .ok (.putfield 77, 3) := by decide +kernel
theorem dX5_take_5 : decode cX5_take 5 = .ok (.aload_n 0, 1) := by decide +kernel
theorem dX5_take_6 : decode cX5_take 6 = .ok (.iload_n 1, 1) := by decide +kernel
theorem dX5_take_7 : decode cX5_take 7 = .ok (.invokevirtual 97, 3) := by decide +kernel
theorem dX5_take_10 : decode cX5_take 10 = .ok (.istore_n 2, 1) := by decide +kernel
theorem dX5_take_11 : decode cX5_take 11 = .ok (.iload_n 2, 1) := by decide +kernel
theorem dX5_take_12 : decode cX5_take 12 = .ok (.iconst (-1), 1) := by decide +kernel
theorem dX5_take_13 : decode cX5_take 13 = .ok (.if_icmp .ne 5, 3) := by decide +kernel
theorem dX5_take_16 : decode cX5_take 16 = .ok (.iconst 0, 1) := by decide +kernel
theorem dX5_take_17 : decode cX5_take 17 = .ok (.ireturn, 1) := by decide +kernel
theorem dX5_take_18 : decode cX5_take 18 = .ok (.aload_n 0, 1) := by decide +kernel
theorem dX5_take_19 : decode cX5_take 19 = .ok (.getfield 22, 3) := by decide +kernel
theorem dX5_take_22 : decode cX5_take 22 = .ok (.iconst 0, 1) := by decide +kernel
theorem dX5_take_23 : decode cX5_take 23 = .ok (.dup2, 1) := by decide +kernel
theorem dX5_take_24 : decode cX5_take 24 = .ok (.iaload, 1) := by decide +kernel
theorem dX5_take_25 : decode cX5_take 25 = .ok (.iconst 1, 1) := by decide +kernel
theorem dX5_take_26 : decode cX5_take 26 = .ok (.isub, 1) := by decide +kernel
theorem dX5_take_27 : decode cX5_take 27 = .ok (.iastore, 1) := by decide +kernel
theorem dX5_take_28 : decode cX5_take 28 = .ok (.iload_n 2, 1) := by decide +kernel
theorem dX5_take_29 : decode cX5_take 29 = .ok (.istore_n 3, 1) := by decide +kernel
theorem dX5_take_30 : decode cX5_take 30 = .ok (.iload_n 3, 1) := by decide +kernel
theorem dX5_take_31 : decode cX5_take 31 = .ok (.aload_n 0, 1) := by decide +kernel
theorem dX5_take_32 : decode cX5_take 32 = .ok (.getfield 22, 3) := by decide +kernel
theorem dX5_take_35 : decode cX5_take 35 = .ok (.iconst 0, 1) := by decide +kernel
theorem dX5_take_36 : decode cX5_take 36 = .ok (.iaload, 1) := by decide +kernel
theorem dX5_take_37 : decode cX5_take 37 = .ok (.if_icmp .ge 23, 3) := by decide +kernel
theorem dX5_take_40 : decode cX5_take 40 = .ok (.aload_n 0, 1) := by decide +kernel
theorem dX5_take_41 : decode cX5_take 41 = .ok (.getfield 25, 3) := by decide +kernel
theorem dX5_take_44 : decode cX5_take 44 = .ok (.iload_n 3, 1) := by decide +kernel
theorem dX5_take_45 : decode cX5_take 45 = .ok (.aload_n 0, 1) := by decide +kernel
theorem dX5_take_46 : decode cX5_take 46 = .ok (.getfield 25, 3) := by decide +kernel
theorem dX5_take_49 : decode cX5_take 49 = .ok (.iload_n 3, 1) := by decide +kernel
theorem dX5_take_50 : decode cX5_take 50 = .ok (.iconst 1, 1) := by decide +kernel
theorem dX5_take_51 : decode cX5_take 51 = .ok (.iadd, 1) := by decide +kernel
theorem dX5_take_52 : decode cX5_take 52 = .ok (.iaload, 1) := by decide +kernel
theorem dX5_take_53 : decode cX5_take 53 = .ok (.iastore, 1) := by decide +kernel
theorem dX5_take_54 : decode cX5_take 54 = .ok (.iinc 3 1, 3) := by decide +kernel
theorem dX5_take_57 : decode cX5_take 57 = .ok (.goto (-27), 3) := by decide +kernel
theorem dX5_take_60 : decode cX5_take 60 = .ok (.aload_n 0, 1) := by decide +kernel
theorem dX5_take_61 : decode cX5_take 61 = .ok (.iconst 0, 1) := by decide +kernel
theorem dX5_take_62 : decode cX5_take 62 = .ok (.putfield 89, 3) := by decide +kernel
theorem dX5_take_65 : decode cX5_take 65 = .ok (.iconst 1, 1) := by decide +kernel
theorem dX5_take_66 : decode cX5_take 66 = .ok (.ireturn, 1) := by decide +kernel
set_option maxRecDepth 20000 in
theorem ggX5_move_X5_placeOf : GoodIn wsX5_move wsX5_placeOf := goodIn_r _ [9, 10, 11, 18, 19, 20, 21, 22, 23, 24, 25, 26, 27, 28, 29, 30, 31, 32, 33, 34, 35, 36, 37, 38, 39, 40, 41] (by decide +kernel) (by decide +kernel)
set_option maxRecDepth 20000 in
theorem gX5_move_X5_placeOf : GoodIn wsX5_move (wsV RX5 97 RX5 yX5_placeOf wsX5_placeOf) := goodIn_app (goodIn_of _ (by decide +kernel)) ggX5_move_X5_placeOf
set_option maxRecDepth 20000 in
theorem ggX5_move_X5_mayLie : GoodIn wsX5_move wsX5_mayLie := goodIn_r _ [14, 15, 16, 8, 17] (by decide +kernel) (by decide +kernel)
set_option maxRecDepth 20000 in
theorem gX5_move_X5_mayLie : GoodIn wsX5_move (va_wsS RX5 93 yX5_mayLie wsX5_mayLie) := goodIn_app (goodIn_of _ (by decide +kernel)) ggX5_move_X5_mayLie
theorem dX5_move_0 : decode cX5_move 0 = .ok (.aload_n 0, 1) := by decide +kernel
theorem dX5_move_1 : decode cX5_move 1 = .ok (.iconst 0, 1) := by decide +kernel
theorem dX5_move_2 : decode cX5_move 2 = .ok (.putfield 77, 3) := by decide +kernel
theorem dX5_move_5 : decode cX5_move 5 = .ok (.aload_n 0, 1) := by decide +kernel
theorem dX5_move_6 : decode cX5_move 6 = .ok (.iload_n 1, 1) := by decide +kernel
theorem dX5_move_7 : decode cX5_move 7 = .ok (.invokevirtual 97, 3) := by decide +kernel
theorem dX5_move_10 : decode cX5_move 10 = .ok (.iconst (-1), 1) := by decide +kernel
theorem dX5_move_11 : decode cX5_move 11 = .ok (.if_icmp .eq 11, 3) := by decide +kernel
theorem dX5_move_14 : decode cX5_move 14 = .ok (.iload_n 2, 1) := by decide +kernel
theorem dX5_move_15 : decode cX5_move 15 = .ok (.iload_n 3, 1) := by decide +kernel
theorem dX5_move_16 : decode cX5_move 16 = .ok (.invokestatic 93, 3) := by decide +kernel
theorem dX5_move_19 : decode cX5_move 19 = .ok (.ifCond .ne 5, 3) := by decide +kernel
theorem dX5_move_22 : decode cX5_move 22 = .ok (.iconst 0, 1) := by decide +kernel
theorem dX5_move_23 : decode cX5_move 23 = .ok (.ireturn, 1) := by decide +kernel
theorem dX5_move_24 : decode cX5_move 24 = .ok (.aload_n 0, 1) := by decide +kernel
theorem dX5_move_25 : decode cX5_move 25 = .ok (.getfield 31, 3) := by decide +kernel
theorem dX5_move_28 : decode cX5_move 28 = .ok (.iload_n 1, 1) := by decide +kernel
theorem dX5_move_29 : decode cX5_move 29 = .ok (.iload_n 2, 1) := by decide +kernel
theorem dX5_move_30 : decode cX5_move 30 = .ok (.iastore, 1) := by decide +kernel
theorem dX5_move_31 : decode cX5_move 31 = .ok (.aload_n 0, 1) := by decide +kernel
theorem dX5_move_32 : decode cX5_move 32 = .ok (.getfield 34, 3) := by decide +kernel
theorem dX5_move_35 : decode cX5_move 35 = .ok (.iload_n 1, 1) := by decide +kernel
theorem dX5_move_36 : decode cX5_move 36 = .ok (.iload_n 3, 1) := by decide +kernel
theorem dX5_move_37 : decode cX5_move 37 = .ok (.iastore, 1) := by decide +kernel
theorem dX5_move_38 : decode cX5_move 38 = .ok (.aload_n 0, 1) := by decide +kernel
theorem dX5_move_39 : decode cX5_move 39 = .ok (.iconst 0, 1) := by decide +kernel
theorem dX5_move_40 : decode cX5_move 40 = .ok (.putfield 89, 3) := by decide +kernel
theorem dX5_move_43 : decode cX5_move 43 = .ok (.iconst 1, 1) := by decide +kernel
theorem dX5_move_44 : decode cX5_move 44 = .ok (.ireturn, 1) := by decide +kernel
set_option maxRecDepth 20000 in
theorem ggX5_lift_X5_placeOf : GoodIn wsX5_lift wsX5_placeOf := goodIn_r _ [9, 2, 3, 13, 14, 15, 16, 17, 18, 19, 20, 21, 22, 23, 24, 25, 26, 27, 28, 29, 30, 31, 32, 33, 34, 35, 36] (by decide +kernel) (by decide +kernel)
set_option maxRecDepth 20000 in
theorem gX5_lift_X5_placeOf : GoodIn wsX5_lift (wsV RX5 97 RX5 yX5_placeOf wsX5_placeOf) := goodIn_app (goodIn_of _ (by decide +kernel)) ggX5_lift_X5_placeOf
set_option maxRecDepth 20000 in
theorem ggX5_lift_X5_in : GoodIn wsX5_lift wsX5_in := goodIn_r _ [12] (by decide +kernel) (by decide +kernel)
set_option maxRecDepth 20000 in
theorem gX5_lift_X5_in : GoodIn wsX5_lift (va_wsS RX5 85 yX5_in wsX5_in) := goodIn_app (goodIn_of _ (by decide +kernel)) ggX5_lift_X5_in
theorem dX5_lift_0 : decode cX5_lift 0 = .ok (.aload_n 0, 1) := by decide +kernel
theorem dX5_lift_1 : decode cX5_lift 1 = .ok (.iconst 0, 1) := by decide +kernel
theorem dX5_lift_2 : decode cX5_lift 2 = .ok (.putfield 77, 3) := by decide +kernel
theorem dX5_lift_5 : decode cX5_lift 5 = .ok (.aload_n 0, 1) := by decide +kernel
theorem dX5_lift_6 : decode cX5_lift 6 = .ok (.iload_n 1, 1) := by decide +kernel
theorem dX5_lift_7 : decode cX5_lift 7 = .ok (.invokevirtual 97, 3) := by decide +kernel
theorem dX5_lift_10 : decode cX5_lift 10 = .ok (.istore_n 3, 1) := by decide +kernel
theorem dX5_lift_11 : decode cX5_lift 11 = .ok (.iload_n 2, 1) := by decide +kernel
theorem dX5_lift_12 : decode cX5_lift 12 = .ok (.ifCond .eq 9, 3) := by decide +kernel
theorem dX5_lift_15 : decode cX5_lift 15 = .ok (.iload_n 3, 1) := by decide +kernel
theorem dX5_lift_16 : decode cX5_lift 16 = .ok (.iconst 1, 1) := by decide +kernel
theorem dX5_lift_17 : decode cX5_lift 17 = .ok (.iadd, 1) := by decide +kernel
theorem dX5_lift_18 : decode cX5_lift 18 = .ok (.goto 6, 3) := by decide +kernel
theorem dX5_lift_21 : decode cX5_lift 21 = .ok (.iload_n 3, 1) := by decide +kernel
theorem dX5_lift_22 : decode cX5_lift 22 = .ok (.iconst 1, 1) := by decide +kernel
theorem dX5_lift_23 : decode cX5_lift 23 = .ok (.isub, 1) := by decide +kernel
theorem dX5_lift_24 : decode cX5_lift 24 = .ok (.istore 4, 2) := by decide +kernel
theorem dX5_lift_26 : decode cX5_lift 26 = .ok (.iload_n 3, 1) := by decide +kernel
theorem dX5_lift_27 : decode cX5_lift 27 = .ok (.iconst (-1), 1) := by decide +kernel
theorem dX5_lift_28 : decode cX5_lift 28 = .ok (.if_icmp .eq 20, 3) := by decide +kernel
theorem dX5_lift_31 : decode cX5_lift 31 = .ok (.iload 4, 2) := by decide +kernel
theorem dX5_lift_33 : decode cX5_lift 33 = .ok (.iconst 0, 1) := by decide +kernel
theorem dX5_lift_34 : decode cX5_lift 34 = .ok (.aload_n 0, 1) := by decide +kernel
theorem dX5_lift_35 : decode cX5_lift 35 = .ok (.getfield 22, 3) := by decide +kernel
theorem dX5_lift_38 : decode cX5_lift 38 = .ok (.iconst 0, 1) := by decide +kernel
theorem dX5_lift_39 : decode cX5_lift 39 = .ok (.iaload, 1) := by decide +kernel
theorem dX5_lift_40 : decode cX5_lift 40 = .ok (.iconst 1, 1) := by decide +kernel
theorem dX5_lift_41 : decode cX5_lift 41 = .ok (.isub, 1) := by decide +kernel
theorem dX5_lift_42 : decode cX5_lift 42 = .ok (.invokestatic 85, 3) := by decide +kernel
theorem dX5_lift_45 : decode cX5_lift 45 = .ok (.ifCond .ne 5, 3) := by decide +kernel
theorem dX5_lift_48 : decode cX5_lift 48 = .ok (.iconst 0, 1) := by decide +kernel
theorem dX5_lift_49 : decode cX5_lift 49 = .ok (.ireturn, 1) := by decide +kernel
theorem dX5_lift_50 : decode cX5_lift 50 = .ok (.aload_n 0, 1) := by decide +kernel
theorem dX5_lift_51 : decode cX5_lift 51 = .ok (.getfield 25, 3) := by decide +kernel
theorem dX5_lift_54 : decode cX5_lift 54 = .ok (.iload_n 3, 1) := by decide +kernel
theorem dX5_lift_55 : decode cX5_lift 55 = .ok (.aload_n 0, 1) := by decide +kernel
theorem dX5_lift_56 : decode cX5_lift 56 = .ok (.getfield 25, 3) := by decide +kernel
theorem dX5_lift_59 : decode cX5_lift 59 = .ok (.iload 4, 2) := by decide +kernel
theorem dX5_lift_61 : decode cX5_lift 61 = .ok (.iaload, 1) := by decide +kernel
theorem dX5_lift_62 : decode cX5_lift 62 = .ok (.iastore, 1) := by decide +kernel
theorem dX5_lift_63 : decode cX5_lift 63 = .ok (.aload_n 0, 1) := by decide +kernel
theorem dX5_lift_64 : decode cX5_lift 64 = .ok (.getfield 25, 3) := by decide +kernel
theorem dX5_lift_67 : decode cX5_lift 67 = .ok (.iload 4, 2) := by decide +kernel
theorem dX5_lift_69 : decode cX5_lift 69 = .ok (.iload_n 1, 1) := by decide +kernel
theorem dX5_lift_70 : decode cX5_lift 70 = .ok (.iastore, 1) := by decide +kernel
theorem dX5_lift_71 : decode cX5_lift 71 = .ok (.aload_n 0, 1) := by decide +kernel
theorem dX5_lift_72 : decode cX5_lift 72 = .ok (.iconst 0, 1) := by decide +kernel
theorem dX5_lift_73 : decode cX5_lift 73 = .ok (.putfield 89, 3) := by decide +kernel
theorem dX5_lift_76 : decode cX5_lift 76 = .ok (.iconst 1, 1) := by decide +kernel
theorem dX5_lift_77 : decode cX5_lift 77 = .ok (.ireturn, 1) := by decide +kernel
set_option maxRecDepth 20000 in
theorem ggX5_paint_X5_placeOf : GoodIn wsX5_paint wsX5_placeOf := goodIn_r _ [9, 10, 11, 15, 16, 17, 18, 19, 20, 21, 22, 23, 24, 25, 26, 27, 28, 29, 30, 31, 32, 33, 34, 35, 36, 37, 38] (by decide +kernel) (by decide +kernel)
set_option maxRecDepth 20000 in
theorem gX5_paint_X5_placeOf : GoodIn wsX5_paint (wsV RX5 97 RX5 yX5_placeOf wsX5_placeOf) := goodIn_app (goodIn_of _ (by decide +kernel)) ggX5_paint_X5_placeOf
set_option maxRecDepth 20000 in
theorem ggX5_paint_X5_in : GoodIn wsX5_paint wsX5_in := goodIn_r _ [14] (by decide +kernel) (by decide +kernel)
set_option maxRecDepth 20000 in
theorem gX5_paint_X5_in : GoodIn wsX5_paint (va_wsS RX5 85 yX5_in wsX5_in) := goodIn_app (goodIn_of _ (by decide +kernel)) ggX5_paint_X5_in
theorem dX5_paint_0 : decode cX5_paint 0 = .ok (.aload_n 0, 1) := by decide +kernel
theorem dX5_paint_1 : decode cX5_paint 1 = .ok (.iconst 0, 1) := by decide +kernel
theorem dX5_paint_2 : decode cX5_paint 2 = .ok (.putfield 77, 3) := by decide +kernel
theorem dX5_paint_5 : decode cX5_paint 5 = .ok (.aload_n 0, 1) := by decide +kernel
theorem dX5_paint_6 : decode cX5_paint 6 = .ok (.iload_n 1, 1) := by decide +kernel
theorem dX5_paint_7 : decode cX5_paint 7 = .ok (.invokevirtual 97, 3) := by decide +kernel
theorem dX5_paint_10 : decode cX5_paint 10 = .ok (.iconst (-1), 1) := by decide +kernel
theorem dX5_paint_11 : decode cX5_paint 11 = .ok (.if_icmp .eq 13, 3) := by decide +kernel
theorem dX5_paint_14 : decode cX5_paint 14 = .ok (.iload_n 2, 1) := by decide +kernel
theorem dX5_paint_15 : decode cX5_paint 15 = .ok (.iconst 0, 1) := by decide +kernel
theorem dX5_paint_16 : decode cX5_paint 16 = .ok (.bipush 15, 2) := by decide +kernel
theorem dX5_paint_18 : decode cX5_paint 18 = .ok (.invokestatic 85, 3) := by decide +kernel
theorem dX5_paint_21 : decode cX5_paint 21 = .ok (.ifCond .ne 5, 3) := by decide +kernel
theorem dX5_paint_24 : decode cX5_paint 24 = .ok (.iconst 0, 1) := by decide +kernel
theorem dX5_paint_25 : decode cX5_paint 25 = .ok (.ireturn, 1) := by decide +kernel
theorem dX5_paint_26 : decode cX5_paint 26 = .ok (.aload_n 0, 1) := by decide +kernel
theorem dX5_paint_27 : decode cX5_paint 27 = .ok (.getfield 43, 3) := by decide +kernel
theorem dX5_paint_30 : decode cX5_paint 30 = .ok (.iload_n 1, 1) := by decide +kernel
theorem dX5_paint_31 : decode cX5_paint 31 = .ok (.iload_n 2, 1) := by decide +kernel
theorem dX5_paint_32 : decode cX5_paint 32 = .ok (.iastore, 1) := by decide +kernel
theorem dX5_paint_33 : decode cX5_paint 33 = .ok (.aload_n 0, 1) := by decide +kernel
theorem dX5_paint_34 : decode cX5_paint 34 = .ok (.getfield 46, 3) := by decide +kernel
theorem dX5_paint_37 : decode cX5_paint 37 = .ok (.iload_n 1, 1) := by decide +kernel
theorem dX5_paint_38 : decode cX5_paint 38 = .ok (.iload_n 3, 1) := by decide +kernel
theorem dX5_paint_39 : decode cX5_paint 39 = .ok (.ifCond .eq 7, 3) := by decide +kernel
theorem dX5_paint_42 : decode cX5_paint 42 = .ok (.iconst 1, 1) := by decide +kernel
theorem dX5_paint_43 : decode cX5_paint 43 = .ok (.goto 4, 3) := by decide +kernel
theorem dX5_paint_46 : decode cX5_paint 46 = .ok (.iconst 0, 1) := by decide +kernel
theorem dX5_paint_47 : decode cX5_paint 47 = .ok (.iastore, 1) := by decide +kernel
theorem dX5_paint_48 : decode cX5_paint 48 = .ok (.aload_n 0, 1) := by decide +kernel
theorem dX5_paint_49 : decode cX5_paint 49 = .ok (.iconst 0, 1) := by decide +kernel
theorem dX5_paint_50 : decode cX5_paint 50 = .ok (.putfield 89, 3) := by decide +kernel
theorem dX5_paint_53 : decode cX5_paint 53 = .ok (.iconst 1, 1) := by decide +kernel
theorem dX5_paint_54 : decode cX5_paint 54 = .ok (.ireturn, 1) := by decide +kernel
set_option maxRecDepth 20000 in
theorem ggX5_has_X5_in : GoodIn wsX5_has wsX5_in := goodIn_r _ [9] (by decide +kernel) (by decide +kernel)
set_option maxRecDepth 20000 in
theorem gX5_has_X5_in : GoodIn wsX5_has (va_wsS RX5 85 yX5_in wsX5_in) := goodIn_app (goodIn_of _ (by decide +kernel)) ggX5_has_X5_in
theorem dX5_has_0 : decode cX5_has 0 = .ok (.iload_n 2, 1) := by decide +kernel
theorem dX5_has_1 : decode cX5_has 1 = .ok (.aload_n 0, 1) := by decide +kernel
theorem dX5_has_2 : decode cX5_has 2 = .ok (.getfield 31, 3) := by decide +kernel
theorem dX5_has_5 : decode cX5_has 5 = .ok (.iload_n 1, 1) := by decide +kernel
theorem dX5_has_6 : decode cX5_has 6 = .ok (.iaload, 1) := by decide +kernel
theorem dX5_has_7 : decode cX5_has 7 = .ok (.isub, 1) := by decide +kernel
theorem dX5_has_8 : decode cX5_has 8 = .ok (.istore 4, 2) := by decide +kernel
theorem dX5_has_10 : decode cX5_has 10 = .ok (.iload_n 3, 1) := by decide +kernel
theorem dX5_has_11 : decode cX5_has 11 = .ok (.aload_n 0, 1) := by decide +kernel
theorem dX5_has_12 : decode cX5_has 12 = .ok (.getfield 34, 3) := by decide +kernel
theorem dX5_has_15 : decode cX5_has 15 = .ok (.iload_n 1, 1) := by decide +kernel
theorem dX5_has_16 : decode cX5_has 16 = .ok (.iaload, 1) := by decide +kernel
theorem dX5_has_17 : decode cX5_has 17 = .ok (.isub, 1) := by decide +kernel
theorem dX5_has_18 : decode cX5_has 18 = .ok (.istore 5, 2) := by decide +kernel
theorem dX5_has_20 : decode cX5_has 20 = .ok (.aload_n 0, 1) := by decide +kernel
theorem dX5_has_21 : decode cX5_has 21 = .ok (.getfield 37, 3) := by decide +kernel
theorem dX5_has_24 : decode cX5_has 24 = .ok (.iload_n 1, 1) := by decide +kernel
theorem dX5_has_25 : decode cX5_has 25 = .ok (.iaload, 1) := by decide +kernel
theorem dX5_has_26 : decode cX5_has 26 = .ok (.istore 6, 2) := by decide +kernel
theorem dX5_has_28 : decode cX5_has 28 = .ok (.aload_n 0, 1) := by decide +kernel
theorem dX5_has_29 : decode cX5_has 29 = .ok (.getfield 40, 3) := by decide +kernel
theorem dX5_has_32 : decode cX5_has 32 = .ok (.iload_n 1, 1) := by decide +kernel
theorem dX5_has_33 : decode cX5_has 33 = .ok (.iaload, 1) := by decide +kernel
theorem dX5_has_34 : decode cX5_has 34 = .ok (.istore 7, 2) := by decide +kernel
theorem dX5_has_36 : decode cX5_has 36 = .ok (.iload 4, 2) := by decide +kernel
theorem dX5_has_38 : decode cX5_has 38 = .ok (.iconst 0, 1) := by decide +kernel
theorem dX5_has_39 : decode cX5_has 39 = .ok (.iload 6, 2) := by decide +kernel
theorem dX5_has_41 : decode cX5_has 41 = .ok (.iconst 1, 1) := by decide +kernel
theorem dX5_has_42 : decode cX5_has 42 = .ok (.isub, 1) := by decide +kernel
theorem dX5_has_43 : decode cX5_has 43 = .ok (.invokestatic 85, 3) := by decide +kernel
theorem dX5_has_46 : decode cX5_has 46 = .ok (.ifCond .eq 16, 3) := by decide +kernel
theorem dX5_has_49 : decode cX5_has 49 = .ok (.iload 5, 2) := by decide +kernel
theorem dX5_has_51 : decode cX5_has 51 = .ok (.iconst 0, 1) := by decide +kernel
theorem dX5_has_52 : decode cX5_has 52 = .ok (.iload 7, 2) := by decide +kernel
theorem dX5_has_54 : decode cX5_has 54 = .ok (.iconst 1, 1) := by decide +kernel
theorem dX5_has_55 : decode cX5_has 55 = .ok (.isub, 1) := by decide +kernel
theorem dX5_has_56 : decode cX5_has 56 = .ok (.invokestatic 85, 3) := by decide +kernel
theorem dX5_has_59 : decode cX5_has 59 = .ok (.ifCond .ne 5, 3) := by decide +kernel
theorem dX5_has_62 : decode cX5_has 62 = .ok (.iconst 0, 1) := by decide +kernel
theorem dX5_has_63 : decode cX5_has 63 = .ok (.ireturn, 1) := by decide +kernel
theorem dX5_has_64 : decode cX5_has 64 = .ok (.aload_n 0, 1) := by decide +kernel
theorem dX5_has_65 : decode cX5_has 65 = .ok (.getfield 28, 3) := by decide +kernel
theorem dX5_has_68 : decode cX5_has 68 = .ok (.iload_n 1, 1) := by decide +kernel
theorem dX5_has_69 : decode cX5_has 69 = .ok (.iaload, 1) := by decide +kernel
theorem dX5_has_70 : decode cX5_has 70 = .ok (.tableswitch 111 0 2 #[26, 28, 92], 26) := by decide +kernel
theorem dX5_has_96 : decode cX5_has 96 = .ok (.iconst 1, 1) := by decide +kernel
theorem dX5_has_97 : decode cX5_has 97 = .ok (.ireturn, 1) := by decide +kernel
theorem dX5_has_98 : decode cX5_has 98 = .ok (.iconst 2, 1) := by decide +kernel
theorem dX5_has_99 : decode cX5_has 99 = .ok (.iload 4, 2) := by decide +kernel
theorem dX5_has_101 : decode cX5_has 101 = .ok (.imul, 1) := by decide +kernel
theorem dX5_has_102 : decode cX5_has 102 = .ok (.iconst 1, 1) := by decide +kernel
theorem dX5_has_103 : decode cX5_has 103 = .ok (.iadd, 1) := by decide +kernel
theorem dX5_has_104 : decode cX5_has 104 = .ok (.iload 6, 2) := by decide +kernel
theorem dX5_has_106 : decode cX5_has 106 = .ok (.isub, 1) := by decide +kernel
theorem dX5_has_107 : decode cX5_has 107 = .ok (.iload 7, 2) := by decide +kernel
theorem dX5_has_109 : decode cX5_has 109 = .ok (.imul, 1) := by decide +kernel
theorem dX5_has_110 : decode cX5_has 110 = .ok (.i2l, 1) := by decide +kernel
theorem dX5_has_111 : decode cX5_has 111 = .ok (.lstore 8, 2) := by decide +kernel
theorem dX5_has_113 : decode cX5_has 113 = .ok (.iconst 2, 1) := by decide +kernel
theorem dX5_has_114 : decode cX5_has 114 = .ok (.iload 5, 2) := by decide +kernel
theorem dX5_has_116 : decode cX5_has 116 = .ok (.imul, 1) := by decide +kernel
theorem dX5_has_117 : decode cX5_has 117 = .ok (.iconst 1, 1) := by decide +kernel
theorem dX5_has_118 : decode cX5_has 118 = .ok (.iadd, 1) := by decide +kernel
theorem dX5_has_119 : decode cX5_has 119 = .ok (.iload 7, 2) := by decide +kernel
theorem dX5_has_121 : decode cX5_has 121 = .ok (.isub, 1) := by decide +kernel
theorem dX5_has_122 : decode cX5_has 122 = .ok (.iload 6, 2) := by decide +kernel
theorem dX5_has_124 : decode cX5_has 124 = .ok (.imul, 1) := by decide +kernel
theorem dX5_has_125 : decode cX5_has 125 = .ok (.i2l, 1) := by decide +kernel
theorem dX5_has_126 : decode cX5_has 126 = .ok (.lstore 10, 2) := by decide +kernel
theorem dX5_has_128 : decode cX5_has 128 = .ok (.iload 6, 2) := by decide +kernel
theorem dX5_has_130 : decode cX5_has 130 = .ok (.iload 7, 2) := by decide +kernel
theorem dX5_has_132 : decode cX5_has 132 = .ok (.imul, 1) := by decide +kernel
theorem dX5_has_133 : decode cX5_has 133 = .ok (.i2l, 1) := by decide +kernel
theorem dX5_has_134 : decode cX5_has 134 = .ok (.lstore 12, 2) := by decide +kernel
theorem dX5_has_136 : decode cX5_has 136 = .ok (.lload 8, 2) := by decide +kernel
theorem dX5_has_138 : decode cX5_has 138 = .ok (.lload 8, 2) := by decide +kernel
theorem dX5_has_140 : decode cX5_has 140 = .ok (.lmul, 1) := by decide +kernel
theorem dX5_has_141 : decode cX5_has 141 = .ok (.lload 10, 2) := by decide +kernel
theorem dX5_has_143 : decode cX5_has 143 = .ok (.lload 10, 2) := by decide +kernel
theorem dX5_has_145 : decode cX5_has 145 = .ok (.lmul, 1) := by decide +kernel
theorem dX5_has_146 : decode cX5_has 146 = .ok (.ladd, 1) := by decide +kernel
theorem dX5_has_147 : decode cX5_has 147 = .ok (.lload 12, 2) := by decide +kernel
theorem dX5_has_149 : decode cX5_has 149 = .ok (.lload 12, 2) := by decide +kernel
theorem dX5_has_151 : decode cX5_has 151 = .ok (.lmul, 1) := by decide +kernel
theorem dX5_has_152 : decode cX5_has 152 = .ok (.lcmp, 1) := by decide +kernel
theorem dX5_has_153 : decode cX5_has 153 = .ok (.ifCond .gt 7, 3) := by decide +kernel
theorem dX5_has_156 : decode cX5_has 156 = .ok (.iconst 1, 1) := by decide +kernel
theorem dX5_has_157 : decode cX5_has 157 = .ok (.goto 4, 3) := by decide +kernel
theorem dX5_has_160 : decode cX5_has 160 = .ok (.iconst 0, 1) := by decide +kernel
theorem dX5_has_161 : decode cX5_has 161 = .ok (.ireturn, 1) := by decide +kernel
theorem dX5_has_162 : decode cX5_has 162 = .ok (.iload 4, 2) := by decide +kernel
theorem dX5_has_164 : decode cX5_has 164 = .ok (.iload 7, 2) := by decide +kernel
theorem dX5_has_166 : decode cX5_has 166 = .ok (.imul, 1) := by decide +kernel
theorem dX5_has_167 : decode cX5_has 167 = .ok (.iload 5, 2) := by decide +kernel
theorem dX5_has_169 : decode cX5_has 169 = .ok (.iload 6, 2) := by decide +kernel
theorem dX5_has_171 : decode cX5_has 171 = .ok (.imul, 1) := by decide +kernel
theorem dX5_has_172 : decode cX5_has 172 = .ok (.if_icmp .gt 7, 3) := by decide +kernel
theorem dX5_has_175 : decode cX5_has 175 = .ok (.iconst 1, 1) := by decide +kernel
theorem dX5_has_176 : decode cX5_has 176 = .ok (.goto 4, 3) := by decide +kernel
theorem dX5_has_179 : decode cX5_has 179 = .ok (.iconst 0, 1) := by decide +kernel
theorem dX5_has_180 : decode cX5_has 180 = .ok (.ireturn, 1) := by decide +kernel
theorem dX5_has_181 : decode cX5_has 181 = .ok (.iload 4, 2) := by decide +kernel
theorem dX5_has_183 : decode cX5_has 183 = .ok (.ifCond .eq 26, 3) := by decide +kernel
theorem dX5_has_186 : decode cX5_has 186 = .ok (.iload 4, 2) := by decide +kernel
theorem dX5_has_188 : decode cX5_has 188 = .ok (.iload 6, 2) := by decide +kernel
theorem dX5_has_190 : decode cX5_has 190 = .ok (.iconst 1, 1) := by decide +kernel
theorem dX5_has_191 : decode cX5_has 191 = .ok (.isub, 1) := by decide +kernel
theorem dX5_has_192 : decode cX5_has 192 = .ok (.if_icmp .eq 17, 3) := by decide +kernel
theorem dX5_has_195 : decode cX5_has 195 = .ok (.iload 5, 2) := by decide +kernel
theorem dX5_has_197 : decode cX5_has 197 = .ok (.ifCond .eq 12, 3) := by decide +kernel
theorem dX5_has_200 : decode cX5_has 200 = .ok (.iload 5, 2) := by decide +kernel
theorem dX5_has_202 : decode cX5_has 202 = .ok (.iload 7, 2) := by decide +kernel
theorem dX5_has_204 : decode cX5_has 204 = .ok (.iconst 1, 1) := by decide +kernel
theorem dX5_has_205 : decode cX5_has 205 = .ok (.isub, 1) := by decide +kernel
theorem dX5_has_206 : decode cX5_has 206 = .ok (.if_icmp .ne 7, 3) := by decide +kernel
theorem dX5_has_209 : decode cX5_has 209 = .ok (.iconst 1, 1) := by decide +kernel
theorem dX5_has_210 : decode cX5_has 210 = .ok (.goto 4, 3) := by decide +kernel
theorem dX5_has_213 : decode cX5_has 213 = .ok (.iconst 0, 1) := by decide +kernel
theorem dX5_has_214 : decode cX5_has 214 = .ok (.ireturn, 1) := by decide +kernel
set_option maxRecDepth 20000 in
theorem ggX5_isCell_X5_in : GoodIn wsX5_isCell wsX5_in := goodIn_r _ [6] (by decide +kernel) (by decide +kernel)
set_option maxRecDepth 20000 in
theorem gX5_isCell_X5_in : GoodIn wsX5_isCell (va_wsS RX5 85 yX5_in wsX5_in) := goodIn_app (goodIn_of _ (by decide +kernel)) ggX5_isCell_X5_in
theorem dX5_isCell_0 : decode cX5_isCell 0 = .ok (.iload_n 1, 1) := by decide +kernel
theorem dX5_isCell_1 : decode cX5_isCell 1 = .ok (.iconst 0, 1) := by decide +kernel
theorem dX5_isCell_2 : decode cX5_isCell 2 = .ok (.aload_n 0, 1) := by decide +kernel
theorem dX5_isCell_3 : decode cX5_isCell 3 = .ok (.getfield 7, 3) := by decide +kernel
theorem dX5_isCell_6 : decode cX5_isCell 6 = .ok (.iconst 0, 1) := by decide +kernel
theorem dX5_isCell_7 : decode cX5_isCell 7 = .ok (.iaload, 1) := by decide +kernel
theorem dX5_isCell_8 : decode cX5_isCell 8 = .ok (.iconst 1, 1) := by decide +kernel
theorem dX5_isCell_9 : decode cX5_isCell 9 = .ok (.isub, 1) := by decide +kernel
theorem dX5_isCell_10 : decode cX5_isCell 10 = .ok (.invokestatic 85, 3) := by decide +kernel
theorem dX5_isCell_13 : decode cX5_isCell 13 = .ok (.ifCond .eq 23, 3) := by decide +kernel
theorem dX5_isCell_16 : decode cX5_isCell 16 = .ok (.iload_n 2, 1) := by decide +kernel
theorem dX5_isCell_17 : decode cX5_isCell 17 = .ok (.iconst 0, 1) := by decide +kernel
theorem dX5_isCell_18 : decode cX5_isCell 18 = .ok (.aload_n 0, 1) := by decide +kernel
theorem dX5_isCell_19 : decode cX5_isCell 19 = .ok (.getfield 13, 3) := by decide +kernel
theorem dX5_isCell_22 : decode cX5_isCell 22 = .ok (.iconst 0, 1) := by decide +kernel
theorem dX5_isCell_23 : decode cX5_isCell 23 = .ok (.iaload, 1) := by decide +kernel
theorem dX5_isCell_24 : decode cX5_isCell 24 = .ok (.iconst 1, 1) := by decide +kernel
theorem dX5_isCell_25 : decode cX5_isCell 25 = .ok (.isub, 1) := by decide +kernel
theorem dX5_isCell_26 : decode cX5_isCell 26 = .ok (.invokestatic 85, 3) := by decide +kernel
theorem dX5_isCell_29 : decode cX5_isCell 29 = .ok (.ifCond .eq 7, 3) := by decide +kernel
theorem dX5_isCell_32 : decode cX5_isCell 32 = .ok (.iconst 1, 1) := by decide +kernel
theorem dX5_isCell_33 : decode cX5_isCell 33 = .ok (.goto 4, 3) := by decide +kernel
theorem dX5_isCell_36 : decode cX5_isCell 36 = .ok (.iconst 0, 1) := by decide +kernel
theorem dX5_isCell_37 : decode cX5_isCell 37 = .ok (.ireturn, 1) := by decide +kernel
theorem dX5_darkness_0 : decode cX5_darkness 0 = .ok (.iconst 0, 1) := by decide +kernel
theorem dX5_darkness_1 : decode cX5_darkness 1 = .ok (.istore_n 2, 1) := by decide +kernel
theorem dX5_darkness_2 : decode cX5_darkness 2 = .ok (.iconst 0, 1) := by decide +kernel
theorem dX5_darkness_3 : decode cX5_darkness 3 = .ok (.istore_n 3, 1) := by decide +kernel
theorem dX5_darkness_4 : decode cX5_darkness 4 = .ok (.iload_n 3, 1) := by decide +kernel
theorem dX5_darkness_5 : decode cX5_darkness 5 = .ok (.iconst 4, 1) := by decide +kernel
theorem dX5_darkness_6 : decode cX5_darkness 6 = .ok (.if_icmp .ge 30, 3) := by decide +kernel
theorem dX5_darkness_9 : decode cX5_darkness 9 = .ok (.iload_n 2, 1) := by decide +kernel
theorem dX5_darkness_10 : decode cX5_darkness 10 = .ok (.iload_n 1, 1) := by decide +kernel
theorem dX5_darkness_11 : decode cX5_darkness 11 = .ok (.iload_n 3, 1) := by decide +kernel
theorem dX5_darkness_12 : decode cX5_darkness 12 = .ok (.ishr, 1) := by decide +kernel
theorem dX5_darkness_13 : decode cX5_darkness 13 = .ok (.iconst 1, 1) := by decide +kernel
theorem dX5_darkness_14 : decode cX5_darkness 14 = .ok (.iand, 1) := by decide +kernel
theorem dX5_darkness_15 : decode cX5_darkness 15 = .ok (.ifCond .eq 12, 3) := by decide +kernel
theorem dX5_darkness_18 : decode cX5_darkness 18 = .ok (.aload_n 0, 1) := by decide +kernel
theorem dX5_darkness_19 : decode cX5_darkness 19 = .ok (.getfield 16, 3) := by decide +kernel
theorem dX5_darkness_22 : decode cX5_darkness 22 = .ok (.iload_n 3, 1) := by decide +kernel
theorem dX5_darkness_23 : decode cX5_darkness 23 = .ok (.iaload, 1) := by decide +kernel
theorem dX5_darkness_24 : decode cX5_darkness 24 = .ok (.goto 4, 3) := by decide +kernel
theorem dX5_darkness_27 : decode cX5_darkness 27 = .ok (.iconst 0, 1) := by decide +kernel
theorem dX5_darkness_28 : decode cX5_darkness 28 = .ok (.iadd, 1) := by decide +kernel
theorem dX5_darkness_29 : decode cX5_darkness 29 = .ok (.istore_n 2, 1) := by decide +kernel
theorem dX5_darkness_30 : decode cX5_darkness 30 = .ok (.iinc 3 1, 3) := by decide +kernel
theorem dX5_darkness_33 : decode cX5_darkness 33 = .ok (.goto (-29), 3) := by decide +kernel
theorem dX5_darkness_36 : decode cX5_darkness 36 = .ok (.iload_n 2, 1) := by decide +kernel
theorem dX5_darkness_37 : decode cX5_darkness 37 = .ok (.ireturn, 1) := by decide +kernel
set_option maxRecDepth 20000 in
theorem ggX5_isLighter_X5_darkness : GoodIn wsX5_isLighter wsX5_darkness := goodIn_r _ [5, 6, 7, 8, 9, 10, 11, 12, 13, 14, 15, 16, 17, 18, 19, 20, 21, 22, 23, 24, 25, 26, 27, 28, 29, 30] (by decide +kernel) (by decide +kernel)
set_option maxRecDepth 20000 in
theorem gX5_isLighter_X5_darkness : GoodIn wsX5_isLighter (wsV RX5 101 RX5 yX5_darkness wsX5_darkness) := goodIn_app (goodIn_of _ (by decide +kernel)) ggX5_isLighter_X5_darkness
theorem dX5_isLighter_0 : decode cX5_isLighter 0 = .ok (.aload_n 0, 1) := by decide +kernel
theorem dX5_isLighter_1 : decode cX5_isLighter 1 = .ok (.iload_n 1, 1) := by decide +kernel
theorem dX5_isLighter_2 : decode cX5_isLighter 2 = .ok (.invokevirtual 101, 3) := by decide +kernel
theorem dX5_isLighter_5 : decode cX5_isLighter 5 = .ok (.istore_n 3, 1) := by decide +kernel
theorem dX5_isLighter_6 : decode cX5_isLighter 6 = .ok (.aload_n 0, 1) := by decide +kernel
theorem dX5_isLighter_7 : decode cX5_isLighter 7 = .ok (.iload_n 2, 1) := by decide +kernel
theorem dX5_isLighter_8 : decode cX5_isLighter 8 = .ok (.invokevirtual 101, 3) := by decide +kernel
theorem dX5_isLighter_11 : decode cX5_isLighter 11 = .ok (.istore 4, 2) := by decide +kernel
theorem dX5_isLighter_13 : decode cX5_isLighter 13 = .ok (.iload_n 3, 1) := by decide +kernel
theorem dX5_isLighter_14 : decode cX5_isLighter 14 = .ok (.iload 4, 2) := by decide +kernel
theorem dX5_isLighter_16 : decode cX5_isLighter 16 = .ok (.if_icmp .lt 14, 3) := by decide +kernel
theorem dX5_isLighter_19 : decode cX5_isLighter 19 = .ok (.iload_n 3, 1) := by decide +kernel
theorem dX5_isLighter_20 : decode cX5_isLighter 20 = .ok (.iload 4, 2) := by decide +kernel
theorem dX5_isLighter_22 : decode cX5_isLighter 22 = .ok (.if_icmp .ne 12, 3) := by decide +kernel
theorem dX5_isLighter_25 : decode cX5_isLighter 25 = .ok (.iload_n 1, 1) := by decide +kernel
theorem dX5_isLighter_26 : decode cX5_isLighter 26 = .ok (.iload_n 2, 1) := by decide +kernel
theorem dX5_isLighter_27 : decode cX5_isLighter 27 = .ok (.if_icmp .ge 7, 3) := by decide +kernel
theorem dX5_isLighter_30 : decode cX5_isLighter 30 = .ok (.iconst 1, 1) := by decide +kernel
theorem dX5_isLighter_31 : decode cX5_isLighter 31 = .ok (.goto 4, 3) := by decide +kernel
theorem dX5_isLighter_34 : decode cX5_isLighter 34 = .ok (.iconst 0, 1) := by decide +kernel
theorem dX5_isLighter_35 : decode cX5_isLighter 35 = .ok (.ireturn, 1) := by decide +kernel
set_option maxRecDepth 20000 in
theorem ggX5_findCells_X5_has : GoodIn wsX5_findCells wsX5_has := goodIn_r _ [16, 17, 18, 19, 20, 21, 22, 23, 15, 24, 43, 44, 45, 46, 47, 48, 49, 50, 51, 52, 53, 54, 55, 56, 57, 58, 59, 60, 61, 62, 63, 64, 65, 66] (by decide +kernel) (by decide +kernel)
set_option maxRecDepth 20000 in
theorem gX5_findCells_X5_has : GoodIn wsX5_findCells (wsV RX5 104 RX5 yX5_has wsX5_has) := goodIn_app (goodIn_of _ (by decide +kernel)) ggX5_findCells_X5_has
set_option maxRecDepth 20000 in
theorem ggX5_findCells_X5_platesOf : GoodIn wsX5_findCells wsX5_platesOf := goodIn_r _ [28, 7, 29, 9, 30, 31, 32, 15, 33, 2, 3, 22, 23, 24, 34, 35, 36, 37, 38, 39, 40, 41, 42, 43, 44, 45, 46, 47, 48, 49, 50, 51, 52, 53, 54, 55, 56, 57, 58, 59, 60, 61, 62, 63, 64, 65, 66] (by decide +kernel) (by decide +kernel)
set_option maxRecDepth 20000 in
theorem gX5_findCells_X5_platesOf : GoodIn wsX5_findCells (wsV RX5 107 RX5 yX5_platesOf wsX5_platesOf) := goodIn_app (goodIn_of _ (by decide +kernel)) ggX5_findCells_X5_platesOf
theorem dX5_findCells_0 : decode cX5_findCells 0 = .ok (.aload_n 0, 1) := by decide +kernel
theorem dX5_findCells_1 : decode cX5_findCells 1 = .ok (.getfield 89, 3) := by decide +kernel
theorem dX5_findCells_4 : decode cX5_findCells 4 = .ok (.ifCond .eq 4, 3) := by decide +kernel
theorem dX5_findCells_7 : decode cX5_findCells 7 = .ok (.return_, 1) := by decide +kernel
theorem dX5_findCells_8 : decode cX5_findCells 8 = .ok (.aload_n 0, 1) := by decide +kernel
theorem dX5_findCells_9 : decode cX5_findCells 9 = .ok (.iconst 1, 1) := by decide +kernel
theorem dX5_findCells_10 : decode cX5_findCells 10 = .ok (.putfield 89, 3) := by decide +kernel
theorem dX5_findCells_13 : decode cX5_findCells 13 = .ok (.iconst 0, 1) := by decide +kernel
theorem dX5_findCells_14 : decode cX5_findCells 14 = .ok (.istore_n 1, 1) := by decide +kernel
theorem dX5_findCells_15 : decode cX5_findCells 15 = .ok (.iload_n 1, 1) := by decide +kernel
theorem dX5_findCells_16 : decode cX5_findCells 16 = .ok (.aload_n 0, 1) := by decide +kernel
theorem dX5_findCells_17 : decode cX5_findCells 17 = .ok (.getfield 7, 3) := by decide +kernel
theorem dX5_findCells_20 : decode cX5_findCells 20 = .ok (.iconst 0, 1) := by decide +kernel
theorem dX5_findCells_21 : decode cX5_findCells 21 = .ok (.iaload, 1) := by decide +kernel
theorem dX5_findCells_22 : decode cX5_findCells 22 = .ok (.if_icmp .ge 166, 3) := by decide +kernel
theorem dX5_findCells_25 : decode cX5_findCells 25 = .ok (.iconst 0, 1) := by decide +kernel
theorem dX5_findCells_26 : decode cX5_findCells 26 = .ok (.istore_n 2, 1) := by decide +kernel
theorem dX5_findCells_27 : decode cX5_findCells 27 = .ok (.iload_n 2, 1) := by decide +kernel
theorem dX5_findCells_28 : decode cX5_findCells 28 = .ok (.aload_n 0, 1) := by decide +kernel
theorem dX5_findCells_29 : decode cX5_findCells 29 = .ok (.getfield 13, 3) := by decide +kernel
theorem dX5_findCells_32 : decode cX5_findCells 32 = .ok (.iconst 0, 1) := by decide +kernel
theorem dX5_findCells_33 : decode cX5_findCells 33 = .ok (.iaload, 1) := by decide +kernel
