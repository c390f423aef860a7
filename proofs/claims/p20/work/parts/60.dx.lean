theorem dX0_init_0 : decode cX0_init 0 = .ok (.aload_n 0, 1) := by decide +kernel
theorem dX0_init_1 : decode cX0_init 1 = .ok (.invokespecial 3, 3) := by decide +kernel
theorem dX0_init_4 : decode cX0_init 4 = .ok (.aload_n 0, 1) := by decide +kernel
theorem dX0_init_5 : decode cX0_init 5 = .ok (.bipush 70, 2) := by decide +kernel
theorem dX0_init_7 : decode cX0_init 7 = .ok (.newarray .char, 2) := by decide +kernel
theorem dX0_init_9 : decode cX0_init 9 = .ok (.putfield 9, 3) := by decide +kernel
theorem dX0_init_12 : decode cX0_init 12 = .ok (.return_, 1) := by decide +kernel
theorem dX0_size_0 : decode cX0_size 0 = .ok (.aload_n 0, 1) := by decide +kernel
theorem dX0_size_1 : decode cX0_size 1 = .ok (.getfield 15, 3) := by decide +kernel
theorem dX0_size_4 : decode cX0_size 4 = .ok (.ireturn, 1) := by decide +kernel
theorem dX0_isFull_0 : decode cX0_isFull 0 = .ok (.aload_n 0, 1) := by decide +kernel
theorem dX0_isFull_1 : decode cX0_isFull 1 = .ok (.getfield 15, 3) := by decide +kernel
theorem dX0_isFull_4 : decode cX0_isFull 4 = .ok (.bipush 70, 2) := by decide +kernel
theorem dX0_isFull_6 : decode cX0_isFull 6 = .ok (.if_icmp .lt 7, 3) := by decide +kernel
theorem dX0_isFull_9 : decode cX0_isFull 9 = .ok (.iconst 1, 1) := by decide +kernel
theorem dX0_isFull_10 : decode cX0_isFull 10 = .ok (.goto 4, 3) := by decide +kernel
theorem dX0_isFull_13 : decode cX0_isFull 13 = .ok (.iconst 0, 1) := by decide +kernel
theorem dX0_isFull_14 : decode cX0_isFull 14 = .ok (.ireturn, 1) := by decide +kernel
theorem dX0_add_0 : decode cX0_add 0 = .ok (.aload_n 0, 1) := by decide +kernel
theorem dX0_add_1 : decode cX0_add 1 = .ok (.getfield 15, 3) := by decide +kernel
theorem dX0_add_4 : decode cX0_add 4 = .ok (.bipush 70, 2) := by decide +kernel
theorem dX0_add_6 : decode cX0_add 6 = .ok (.if_icmp .ge 23, 3) := by decide +kernel
theorem dX0_add_9 : decode cX0_add 9 = .ok (.aload_n 0, 1) := by decide +kernel
theorem dX0_add_10 : decode cX0_add 10 = .ok (.getfield 9, 3) := by decide +kernel
theorem dX0_add_13 : decode cX0_add 13 = .ok (.aload_n 0, 1) := by decide +kernel
theorem dX0_add_14 : decode cX0_add 14 = .ok (.getfield 15, 3) := by decide +kernel
theorem dX0_add_17 : decode cX0_add 17 = .ok (.iload_n 1, 1) := by decide +kernel
theorem dX0_add_18 : decode cX0_add 18 = .ok (.castore, 1) := by decide +kernel
theorem dX0_add_19 : decode cX0_add 19 = .ok (.aload_n 0, 1) := by decide +kernel
theorem dX0_add_20 : decode cX0_add 20 = .ok (.dup, 1) := by decide +kernel
theorem dX0_add_21 : decode cX0_add 21 = .ok (.getfield 15, 3) := by decide +kernel
theorem dX0_add_24 : decode cX0_add 24 = .ok (.iconst 1, 1) := by decide +kernel
theorem dX0_add_25 : decode cX0_add 25 = .ok (.iadd, 1) := by decide +kernel
theorem dX0_add_26 : decode cX0_add 26 = .ok (.putfield 15, 3) := by decide +kernel
theorem dX0_add_29 : decode cX0_add 29 = .ok (.return_, 1) := by decide +kernel
theorem dX0_dropLast_0 : decode cX0_dropLast 0 = .ok (.aload_n 0, 1) := by decide +kernel
theorem dX0_dropLast_1 : decode cX0_dropLast 1 = .ok (.getfield 15, 3) := by decide +kernel
theorem dX0_dropLast_4 : decode cX0_dropLast 4 = .ok (.ifCond .le 13, 3) := by decide +kernel
theorem dX0_dropLast_7 : decode cX0_dropLast 7 = .ok (.aload_n 0, 1) := by decide +kernel
theorem dX0_dropLast_8 : decode cX0_dropLast 8 = .ok (.dup, 1) := by decide +kernel
theorem dX0_dropLast_9 : decode cX0_dropLast 9 = .ok (.getfield 15, 3) := by decide +kernel
theorem dX0_dropLast_12 : decode cX0_dropLast 12 = .ok (.iconst 1, 1) := by decide +kernel
theorem dX0_dropLast_13 : decode cX0_dropLast 13 = .ok (.isub, 1) := by decide +kernel
theorem dX0_dropLast_14 : decode cX0_dropLast 14 = .ok (.putfield 15, 3) := by decide +kernel
theorem dX0_dropLast_17 : decode cX0_dropLast 17 = .ok (.return_, 1) := by decide +kernel
theorem dX0_empty_0 : decode cX0_empty 0 = .ok (.aload_n 0, 1) := by decide +kernel
theorem dX0_empty_1 : decode cX0_empty 1 = .ok (.iconst 0, 1) := by decide +kernel
theorem dX0_empty_2 : decode cX0_empty 2 = .ok (.putfield 15, 3) := by decide +kernel
theorem dX0_empty_5 : decode cX0_empty 5 = .ok (.return_, 1) := by decide +kernel
set_option maxRecDepth 20000 in
theorem ggX0_told_J4_init_da8c8 : GoodIn wsX0_told wsJ4_init_da8c8 := goodIn_r _ [8, 9, 10, 11, 12, 13, 14, 15, 16, 17, 18, 19, 20, 21, 22, 23, 24, 25, 26, 27, 186, 187, 188, 189] (by decide +kernel) (by decide +kernel)
set_option maxRecDepth 20000 in
theorem gX0_told_J4_init_da8c8 : GoodIn wsX0_told (wsJ4_init_da8c8) := ggX0_told_J4_init_da8c8
set_option maxRecDepth 20000 in
theorem ggX0_told_J4_append_cf468 : GoodIn wsX0_told wsJ4_append_cf468 := goodIn_r _ [31, 32, 33, 34, 35, 11, 36, 37, 18, 38, 39, 40, 41, 42, 19, 43, 44, 45, 46, 47, 48, 49, 50, 51, 52, 53, 54, 55, 56, 57, 58, 59, 60, 61, 62, 63, 64, 65, 66, 67, 68, 69, 70, 17, 71, 72, 73, 74, 75, 76, 77, 78, 79, 80, 81, 82, 16, 83, 84, 85, 86, 87, 88, 89, 90, 91, 20, 21, 22, 23, 24, 25, 26, 27, 92, 93, 94, 95, 96, 97, 98, 99, 100, 101, 102, 103, 104, 105, 106, 107, 108, 109, 110, 111, 112, 113, 114, 115, 116, 117, 118, 119, 120, 121, 122, 123, 124, 125, 126, 127, 128, 129, 130, 186, 187, 188, 189] (by decide +kernel) (by decide +kernel)
set_option maxRecDepth 20000 in
theorem gX0_told_J4_append_cf468 : GoodIn wsX0_told (wsV RX0 22 RJ4 yJ4_append_cf468 wsJ4_append_cf468) := goodIn_app (goodIn_of _ (by decide +kernel)) ggX0_told_J4_append_cf468
set_option maxRecDepth 20000 in
theorem ggX0_told_J4_toString_0e30d : GoodIn wsX0_told wsJ4_toString_0e30d := goodIn_r _ [134, 135, 136, 106, 137, 138, 139, 140, 141, 142, 143, 14, 15, 144, 145, 146, 147, 148, 149, 150, 151, 11, 152, 18, 153, 154, 155, 156, 157, 3, 158, 159, 34, 160, 161, 37, 162, 79, 80, 81, 82, 16, 19, 163, 164, 63, 165, 65, 66, 67, 68, 69, 70, 166, 167, 168, 17, 71, 72, 55, 73, 74, 75, 76, 77, 169, 170, 171, 172, 2, 173, 174, 22, 175, 176, 177, 178, 98, 99, 100, 101, 102, 103, 104, 105, 107, 108, 109, 110, 111, 112, 179, 180, 181, 116, 117, 118, 24, 25, 26, 27, 182, 183, 184, 185, 192, 193, 194, 195, 186, 187, 188, 189] (by decide +kernel) (by decide +kernel)
set_option maxRecDepth 20000 in
theorem gX0_told_J4_toString_0e30d : GoodIn wsX0_told (wsV RX0 26 RJ4 yJ4_toString_0e30d wsJ4_toString_0e30d) := goodIn_app (goodIn_of _ (by decide +kernel)) ggX0_told_J4_toString_0e30d
theorem dX0_told_0 : decode cX0_told 0 = .ok (.new 19, 3) := by decide +kernel
theorem dX0_told_3 : decode cX0_told 3 = .ok (.dup, 1) := by decide +kernel
theorem dX0_told_4 : decode cX0_told 4 = .ok (.invokespecial 21, 3) := by decide +kernel
theorem dX0_told_7 : decode cX0_told 7 = .ok (.astore_n 1, 1) := by decide +kernel
theorem dX0_told_8 : decode cX0_told 8 = .ok (.iconst 0, 1) := by decide +kernel
theorem dX0_told_9 : decode cX0_told 9 = .ok (.istore_n 2, 1) := by decide +kernel
theorem dX0_told_10 : decode cX0_told 10 = .ok (.iload_n 2, 1) := by decide +kernel
theorem dX0_told_11 : decode cX0_told 11 = .ok (.aload_n 0, 1) := by decide +kernel
theorem dX0_told_12 : decode cX0_told 12 = .ok (.getfield 15, 3) := by decide +kernel
theorem dX0_told_15 : decode cX0_told 15 = .ok (.if_icmp .ge 20, 3) := by decide +kernel
theorem dX0_told_18 : decode cX0_told 18 = .ok (.aload_n 1, 1) := by decide +kernel
theorem dX0_told_19 : decode cX0_told 19 = .ok (.aload_n 0, 1) := by decide +kernel
theorem dX0_told_20 : decode cX0_told 20 = .ok (.getfield 9, 3) := by decide +kernel
theorem dX0_told_23 : decode cX0_told 23 = .ok (.iload_n 2, 1) := by decide +kernel
theorem dX0_told_24 : decode cX0_told 24 = .ok (.caload, 1) := by decide +kernel
theorem dX0_told_25 : decode cX0_told 25 = .ok (.invokevirtual 22, 3) := by decide +kernel
theorem dX0_told_28 : decode cX0_told 28 = .ok (.pop, 1) := by decide +kernel
theorem dX0_told_29 : decode cX0_told 29 = .ok (.iinc 2 1, 3) := by decide +kernel
theorem dX0_told_32 : decode cX0_told 32 = .ok (.goto (-22), 3) := by decide +kernel
theorem dX0_told_35 : decode cX0_told 35 = .ok (.aload_n 1, 1) := by decide +kernel
theorem dX0_told_36 : decode cX0_told 36 = .ok (.invokevirtual 26, 3) := by decide +kernel
theorem dX0_told_39 : decode cX0_told 39 = .ok (.areturn, 1) := by decide +kernel
theorem dX0_signOf_0 : decode cX0_signOf 0 = .ok (.iload_n 0, 1) := by decide +kernel
theorem dX0_signOf_1 : decode cX0_signOf 1 = .ok (.bipush 10, 2) := by decide +kernel
theorem dX0_signOf_3 : decode cX0_signOf 3 = .ok (.if_icmp .ge 9, 3) := by decide +kernel
theorem dX0_signOf_6 : decode cX0_signOf 6 = .ok (.bipush 48, 2) := by decide +kernel
theorem dX0_signOf_8 : decode cX0_signOf 8 = .ok (.iload_n 0, 1) := by decide +kernel
theorem dX0_signOf_9 : decode cX0_signOf 9 = .ok (.iadd, 1) := by decide +kernel
theorem dX0_signOf_10 : decode cX0_signOf 10 = .ok (.i2c, 1) := by decide +kernel
theorem dX0_signOf_11 : decode cX0_signOf 11 = .ok (.ireturn, 1) := by decide +kernel
theorem dX0_signOf_12 : decode cX0_signOf 12 = .ok (.iload_n 0, 1) := by decide +kernel
theorem dX0_signOf_13 : decode cX0_signOf 13 = .ok (.bipush 36, 2) := by decide +kernel
theorem dX0_signOf_15 : decode cX0_signOf 15 = .ok (.if_icmp .ge 21, 3) := by decide +kernel
theorem dX0_signOf_18 : decode cX0_signOf 18 = .ok (.iload_n 1, 1) := by decide +kernel
theorem dX0_signOf_19 : decode cX0_signOf 19 = .ok (.ifCond .eq 8, 3) := by decide +kernel
theorem dX0_signOf_22 : decode cX0_signOf 22 = .ok (.bipush 65, 2) := by decide +kernel
theorem dX0_signOf_24 : decode cX0_signOf 24 = .ok (.goto 5, 3) := by decide +kernel
theorem dX0_signOf_27 : decode cX0_signOf 27 = .ok (.bipush 97, 2) := by decide +kernel
theorem dX0_signOf_29 : decode cX0_signOf 29 = .ok (.iload_n 0, 1) := by decide +kernel
theorem dX0_signOf_30 : decode cX0_signOf 30 = .ok (.iadd, 1) := by decide +kernel
theorem dX0_signOf_31 : decode cX0_signOf 31 = .ok (.bipush 10, 2) := by decide +kernel
theorem dX0_signOf_33 : decode cX0_signOf 33 = .ok (.isub, 1) := by decide +kernel
theorem dX0_signOf_34 : decode cX0_signOf 34 = .ok (.i2c, 1) := by decide +kernel
theorem dX0_signOf_35 : decode cX0_signOf 35 = .ok (.ireturn, 1) := by decide +kernel
theorem dX0_signOf_36 : decode cX0_signOf 36 = .ok (.iload_n 0, 1) := by decide +kernel
theorem dX0_signOf_37 : decode cX0_signOf 37 = .ok (.bipush 36, 2) := by decide +kernel
theorem dX0_signOf_39 : decode cX0_signOf 39 = .ok (.if_icmp .ne 8, 3) := by decide +kernel
theorem dX0_signOf_42 : decode cX0_signOf 42 = .ok (.bipush 45, 2) := by decide +kernel
theorem dX0_signOf_44 : decode cX0_signOf 44 = .ok (.goto 5, 3) := by decide +kernel
theorem dX0_signOf_47 : decode cX0_signOf 47 = .ok (.bipush 43, 2) := by decide +kernel
theorem dX0_signOf_49 : decode cX0_signOf 49 = .ok (.ireturn, 1) := by decide +kernel
theorem dX0_worthOf_0 : decode cX0_worthOf 0 = .ok (.iload_n 0, 1) := by decide +kernel
theorem dX0_worthOf_1 : decode cX0_worthOf 1 = .ok (.bipush 48, 2) := by decide +kernel
theorem dX0_worthOf_3 : decode cX0_worthOf 3 = .ok (.if_icmp .lt 14, 3) := by decide +kernel
theorem dX0_worthOf_6 : decode cX0_worthOf 6 = .ok (.iload_n 0, 1) := by decide +kernel
theorem dX0_worthOf_7 : decode cX0_worthOf 7 = .ok (.bipush 57, 2) := by decide +kernel
theorem dX0_worthOf_9 : decode cX0_worthOf 9 = .ok (.if_icmp .gt 8, 3) := by decide +kernel
theorem dX0_worthOf_12 : decode cX0_worthOf 12 = .ok (.iload_n 0, 1) := by decide +kernel
theorem dX0_worthOf_13 : decode cX0_worthOf 13 = .ok (.bipush 48, 2) := by decide +kernel
theorem dX0_worthOf_15 : decode cX0_worthOf 15 = .ok (.isub, 1) := by decide +kernel
theorem dX0_worthOf_16 : decode cX0_worthOf 16 = .ok (.ireturn, 1) := by decide +kernel
theorem dX0_worthOf_17 : decode cX0_worthOf 17 = .ok (.iload_n 0, 1) := by decide +kernel
theorem dX0_worthOf_18 : decode cX0_worthOf 18 = .ok (.bipush 97, 2) := by decide +kernel
theorem dX0_worthOf_20 : decode cX0_worthOf 20 = .ok (.if_icmp .lt 17, 3) := by decide +kernel
theorem dX0_worthOf_23 : decode cX0_worthOf 23 = .ok (.iload_n 0, 1) := by decide +kernel
theorem dX0_worthOf_24 : decode cX0_worthOf 24 = .ok (.bipush 122, 2) := by decide +kernel
theorem dX0_worthOf_26 : decode cX0_worthOf 26 = .ok (.if_icmp .gt 11, 3) := by decide +kernel
theorem dX0_worthOf_29 : decode cX0_worthOf 29 = .ok (.iload_n 0, 1) := by decide +kernel
theorem dX0_worthOf_30 : decode cX0_worthOf 30 = .ok (.bipush 97, 2) := by decide +kernel
theorem dX0_worthOf_32 : decode cX0_worthOf 32 = .ok (.isub, 1) := by decide +kernel
theorem dX0_worthOf_33 : decode cX0_worthOf 33 = .ok (.bipush 10, 2) := by decide +kernel
theorem dX0_worthOf_35 : decode cX0_worthOf 35 = .ok (.iadd, 1) := by decide +kernel
theorem dX0_worthOf_36 : decode cX0_worthOf 36 = .ok (.ireturn, 1) := by decide +kernel
theorem dX0_worthOf_37 : decode cX0_worthOf 37 = .ok (.iload_n 0, 1) := by decide +kernel
theorem dX0_worthOf_38 : decode cX0_worthOf 38 = .ok (.bipush 65, 2) := by decide +kernel
theorem dX0_worthOf_40 : decode cX0_worthOf 40 = .ok (.if_icmp .lt 17, 3) := by decide +kernel
theorem dX0_worthOf_43 : decode cX0_worthOf 43 = .ok (.iload_n 0, 1) := by decide +kernel
theorem dX0_worthOf_44 : decode cX0_worthOf 44 = .ok (.bipush 90, 2) := by decide +kernel
theorem dX0_worthOf_46 : decode cX0_worthOf 46 = .ok (.if_icmp .gt 11, 3) := by decide +kernel
theorem dX0_worthOf_49 : decode cX0_worthOf 49 = .ok (.iload_n 0, 1) := by decide +kernel
theorem dX0_worthOf_50 : decode cX0_worthOf 50 = .ok (.bipush 65, 2) := by decide +kernel
theorem dX0_worthOf_52 : decode cX0_worthOf 52 = .ok (.isub, 1) := by decide +kernel
theorem dX0_worthOf_53 : decode cX0_worthOf 53 = .ok (.bipush 10, 2) := by decide +kernel
theorem dX0_worthOf_55 : decode cX0_worthOf 55 = .ok (.iadd, 1) := by decide +kernel
theorem dX0_worthOf_56 : decode cX0_worthOf 56 = .ok (.ireturn, 1) := by decide +kernel
theorem dX0_worthOf_57 : decode cX0_worthOf 57 = .ok (.iconst (-1), 1) := by decide +kernel
theorem dX0_worthOf_58 : decode cX0_worthOf 58 = .ok (.ireturn, 1) := by decide +kernel
set_option maxRecDepth 20000 in
theorem ggX0_digitAt_X0_worthOf : GoodIn wsX0_digitAt wsX0_worthOf := goodIn_r _ [6] (by decide +kernel) (by decide +kernel)
set_option maxRecDepth 20000 in
theorem gX0_digitAt_X0_worthOf : GoodIn wsX0_digitAt (va_wsS RX0 30 yX0_worthOf wsX0_worthOf) := goodIn_app (goodIn_of _ (by decide +kernel)) ggX0_digitAt_X0_worthOf
theorem dX0_digitAt_0 : decode cX0_digitAt 0 = .ok (.iload_n 1, 1) := by decide +kernel
theorem dX0_digitAt_1 : decode cX0_digitAt 1 = .ok (.ifCond .lt 11, 3) := by decide +kernel
theorem dX0_digitAt_4 : decode cX0_digitAt 4 = .ok (.iload_n 1, 1) := by decide +kernel
theorem dX0_digitAt_5 : decode cX0_digitAt 5 = .ok (.aload_n 0, 1) := by decide +kernel
theorem dX0_digitAt_6 : decode cX0_digitAt 6 = .ok (.getfield 15, 3) := by decide +kernel
theorem dX0_digitAt_9 : decode cX0_digitAt 9 = .ok (.if_icmp .lt 5, 3) := by decide +kernel
theorem dX0_digitAt_12 : decode cX0_digitAt 12 = .ok (.iconst (-1), 1) := by decide +kernel
theorem dX0_digitAt_13 : decode cX0_digitAt 13 = .ok (.ireturn, 1) := by decide +kernel
theorem dX0_digitAt_14 : decode cX0_digitAt 14 = .ok (.aload_n 0, 1) := by decide +kernel
theorem dX0_digitAt_15 : decode cX0_digitAt 15 = .ok (.getfield 9, 3) := by decide +kernel
theorem dX0_digitAt_18 : decode cX0_digitAt 18 = .ok (.iload_n 1, 1) := by decide +kernel
theorem dX0_digitAt_19 : decode cX0_digitAt 19 = .ok (.caload, 1) := by decide +kernel
theorem dX0_digitAt_20 : decode cX0_digitAt 20 = .ok (.invokestatic 30, 3) := by decide +kernel
theorem dX0_digitAt_23 : decode cX0_digitAt 23 = .ok (.istore_n 3, 1) := by decide +kernel
theorem dX0_digitAt_24 : decode cX0_digitAt 24 = .ok (.iload_n 3, 1) := by decide +kernel
theorem dX0_digitAt_25 : decode cX0_digitAt 25 = .ok (.iload_n 2, 1) := by decide +kernel
theorem dX0_digitAt_26 : decode cX0_digitAt 26 = .ok (.if_icmp .ge 7, 3) := by decide +kernel
theorem dX0_digitAt_29 : decode cX0_digitAt 29 = .ok (.iload_n 3, 1) := by decide +kernel
theorem dX0_digitAt_30 : decode cX0_digitAt 30 = .ok (.goto 4, 3) := by decide +kernel
theorem dX0_digitAt_33 : decode cX0_digitAt 33 = .ok (.iconst (-1), 1) := by decide +kernel
theorem dX0_digitAt_34 : decode cX0_digitAt 34 = .ok (.ireturn, 1) := by decide +kernel
set_option maxRecDepth 20000 in
theorem ggX0_isNumberOf_X0_startsWith : GoodIn wsX0_isNumberOf wsX0_startsWith := goodIn_r _ [6, 1, 7, 44, 45] (by decide +kernel) (by decide +kernel)
set_option maxRecDepth 20000 in
theorem gX0_isNumberOf_X0_startsWith : GoodIn wsX0_isNumberOf (wsV RX0 34 RX0 yX0_startsWith wsX0_startsWith) := goodIn_app (goodIn_of _ (by decide +kernel)) ggX0_isNumberOf_X0_startsWith
set_option maxRecDepth 20000 in
theorem ggX0_isNumberOf_X2_isSigned : GoodIn wsX0_isNumberOf wsX2_isSigned := goodIn_r _ [10] (by decide +kernel) (by decide +kernel)
set_option maxRecDepth 20000 in
theorem gX0_isNumberOf_X2_isSigned_n38 : GoodIn wsX0_isNumberOf (wsX2_isSigned) := ggX0_isNumberOf_X2_isSigned
set_option maxRecDepth 20000 in
theorem ggX0_isNumberOf_X0_firstDigit : GoodIn wsX0_isNumberOf wsX0_firstDigit := goodIn_r _ [14, 2, 3, 4, 5, 6, 1, 7, 44, 45] (by decide +kernel) (by decide +kernel)
set_option maxRecDepth 20000 in
theorem gX0_isNumberOf_X0_firstDigit : GoodIn wsX0_isNumberOf (wsV RX0 42 RX0 yX0_firstDigit wsX0_firstDigit) := goodIn_app (goodIn_of _ (by decide +kernel)) ggX0_isNumberOf_X0_firstDigit
set_option maxRecDepth 20000 in
theorem ggX0_isNumberOf_X0_greatest : GoodIn wsX0_isNumberOf wsX0_greatest := goodIn_r _ [17, 18, 19, 20, 21, 22, 23] (by decide +kernel) (by decide +kernel)
set_option maxRecDepth 20000 in
theorem gX0_isNumberOf_X0_greatest : GoodIn wsX0_isNumberOf (va_wsS RX0 46 yX0_greatest wsX0_greatest) := goodIn_app (goodIn_of _ (by decide +kernel)) ggX0_isNumberOf_X0_greatest
set_option maxRecDepth 20000 in
theorem ggX0_isNumberOf_X0_isWithin : GoodIn wsX0_isNumberOf wsX0_isWithin := goodIn_r _ [27, 1, 28, 29, 30, 31, 32, 33, 34, 35, 36, 37, 38, 5, 39, 7, 40, 41, 42, 43, 44, 45] (by decide +kernel) (by decide +kernel)
set_option maxRecDepth 20000 in
theorem gX0_isNumberOf_X0_isWithin : GoodIn wsX0_isNumberOf (wsV RX0 50 RX0 yX0_isWithin wsX0_isWithin) := goodIn_app (goodIn_of _ (by decide +kernel)) ggX0_isNumberOf_X0_isWithin
theorem dX0_isNumberOf_0 : decode cX0_isNumberOf 0 = .ok (.aload_n 0, 1) := by decide +kernel
theorem dX0_isNumberOf_1 : decode cX0_isNumberOf 1 = .ok (.bipush 45, 2) := by decide +kernel
theorem dX0_isNumberOf_3 : decode cX0_isNumberOf 3 = .ok (.invokevirtual 34, 3) := by decide +kernel
theorem dX0_isNumberOf_6 : decode cX0_isNumberOf 6 = .ok (.istore_n 3, 1) := by decide +kernel
theorem dX0_isNumberOf_7 : decode cX0_isNumberOf 7 = .ok (.iload_n 3, 1) := by decide +kernel
theorem dX0_isNumberOf_8 : decode cX0_isNumberOf 8 = .ok (.ifCond .eq 12, 3) := by decide +kernel
theorem dX0_isNumberOf_11 : decode cX0_isNumberOf 11 = .ok (.iload_n 2, 1) := by decide +kernel
theorem dX0_isNumberOf_12 : decode cX0_isNumberOf 12 = .ok (.invokestatic 38, 3) := by decide +kernel
theorem dX0_isNumberOf_15 : decode cX0_isNumberOf 15 = .ok (.ifCond .ne 5, 3) := by decide +kernel
theorem dX0_isNumberOf_18 : decode cX0_isNumberOf 18 = .ok (.iconst 0, 1) := by decide +kernel
theorem dX0_isNumberOf_19 : decode cX0_isNumberOf 19 = .ok (.ireturn, 1) := by decide +kernel
theorem dX0_isNumberOf_20 : decode cX0_isNumberOf 20 = .ok (.aload_n 0, 1) := by decide +kernel
theorem dX0_isNumberOf_21 : decode cX0_isNumberOf 21 = .ok (.invokevirtual 42, 3) := by decide +kernel
theorem dX0_isNumberOf_24 : decode cX0_isNumberOf 24 = .ok (.istore 4, 2) := by decide +kernel
theorem dX0_isNumberOf_26 : decode cX0_isNumberOf 26 = .ok (.iload 4, 2) := by decide +kernel
theorem dX0_isNumberOf_28 : decode cX0_isNumberOf 28 = .ok (.aload_n 0, 1) := by decide +kernel
theorem dX0_isNumberOf_29 : decode cX0_isNumberOf 29 = .ok (.getfield 15, 3) := by decide +kernel
theorem dX0_isNumberOf_32 : decode cX0_isNumberOf 32 = .ok (.if_icmp .ge 22, 3) := by decide +kernel
theorem dX0_isNumberOf_35 : decode cX0_isNumberOf 35 = .ok (.aload_n 0, 1) := by decide +kernel
theorem dX0_isNumberOf_36 : decode cX0_isNumberOf 36 = .ok (.iload 4, 2) := by decide +kernel
theorem dX0_isNumberOf_38 : decode cX0_isNumberOf 38 = .ok (.iload_n 1, 1) := by decide +kernel
theorem dX0_isNumberOf_39 : decode cX0_isNumberOf 39 = .ok (.iload_n 2, 1) := by decide +kernel
theorem dX0_isNumberOf_40 : decode cX0_isNumberOf 40 = .ok (.iload_n 3, 1) := by decide +kernel
theorem dX0_isNumberOf_41 : decode cX0_isNumberOf 41 = .ok (.invokestatic 46, 3) := by decide +kernel
theorem dX0_isNumberOf_44 : decode cX0_isNumberOf 44 = .ok (.invokevirtual 50, 3) := by decide +kernel
theorem dX0_isNumberOf_47 : decode cX0_isNumberOf 47 = .ok (.ifCond .eq 7, 3) := by decide +kernel
theorem dX0_isNumberOf_50 : decode cX0_isNumberOf 50 = .ok (.iconst 1, 1) := by decide +kernel
theorem dX0_isNumberOf_51 : decode cX0_isNumberOf 51 = .ok (.goto 4, 3) := by decide +kernel
theorem dX0_isNumberOf_54 : decode cX0_isNumberOf 54 = .ok (.iconst 0, 1) := by decide +kernel
theorem dX0_isNumberOf_55 : decode cX0_isNumberOf 55 = .ok (.ireturn, 1) := by decide +kernel
set_option maxRecDepth 20000 in
theorem ggX0_numberHeld_X0_firstDigit : GoodIn wsX0_numberHeld wsX0_firstDigit := goodIn_r _ [6, 7, 8, 9, 5, 10, 1, 11, 19, 20] (by decide +kernel) (by decide +kernel)
set_option maxRecDepth 20000 in
theorem gX0_numberHeld_X0_firstDigit : GoodIn wsX0_numberHeld (wsV RX0 42 RX0 yX0_firstDigit wsX0_firstDigit) := goodIn_app (goodIn_of _ (by decide +kernel)) ggX0_numberHeld_X0_firstDigit
set_option maxRecDepth 20000 in
theorem ggX0_numberHeld_X0_digitAt : GoodIn wsX0_numberHeld wsX0_digitAt := goodIn_r _ [15, 1, 11, 16, 17, 5, 18, 19, 20] (by decide +kernel) (by decide +kernel)
set_option maxRecDepth 20000 in
theorem gX0_numberHeld_X0_digitAt : GoodIn wsX0_numberHeld (wsV RX0 54 RX0 yX0_digitAt wsX0_digitAt) := goodIn_app (goodIn_of _ (by decide +kernel)) ggX0_numberHeld_X0_digitAt
set_option maxRecDepth 20000 in
theorem ggX0_numberHeld_X0_startsWith : GoodIn wsX0_numberHeld wsX0_startsWith := goodIn_r _ [10, 1, 11, 19, 20] (by decide +kernel) (by decide +kernel)
set_option maxRecDepth 20000 in
theorem gX0_numberHeld_X0_startsWith : GoodIn wsX0_numberHeld (wsV RX0 34 RX0 yX0_startsWith wsX0_startsWith) := goodIn_app (goodIn_of _ (by decide +kernel)) ggX0_numberHeld_X0_startsWith
theorem dX0_numberHeld_0 : decode cX0_numberHeld 0 = .ok (.lconst 0, 1) := by decide +kernel
theorem dX0_numberHeld_1 : decode cX0_numberHeld 1 = .ok (.lstore_n 2, 1) := by decide +kernel
theorem dX0_numberHeld_2 : decode cX0_numberHeld 2 = .ok (.aload_n 0, 1) := by decide +kernel
theorem dX0_numberHeld_3 : decode cX0_numberHeld 3 = .ok (.invokevirtual 42, 3) := by decide +kernel
theorem dX0_numberHeld_6 : decode cX0_numberHeld 6 = .ok (.istore 4, 2) := by decide +kernel
theorem dX0_numberHeld_8 : decode cX0_numberHeld 8 = .ok (.iload 4, 2) := by decide +kernel
theorem dX0_numberHeld_10 : decode cX0_numberHeld 10 = .ok (.aload_n 0, 1) := by decide +kernel
theorem dX0_numberHeld_11 : decode cX0_numberHeld 11 = .ok (.getfield 15, 3) := by decide +kernel
theorem dX0_numberHeld_14 : decode cX0_numberHeld 14 = .ok (.if_icmp .ge 23, 3) := by decide +kernel
theorem dX0_numberHeld_17 : decode cX0_numberHeld 17 = .ok (.lload_n 2, 1) := by decide +kernel
theorem dX0_numberHeld_18 : decode cX0_numberHeld 18 = .ok (.iload_n 1, 1) := by decide +kernel
theorem dX0_numberHeld_19 : decode cX0_numberHeld 19 = .ok (.i2l, 1) := by decide +kernel
theorem dX0_numberHeld_20 : decode cX0_numberHeld 20 = .ok (.lmul, 1) := by decide +kernel
theorem dX0_numberHeld_21 : decode cX0_numberHeld 21 = .ok (.aload_n 0, 1) := by decide +kernel
theorem dX0_numberHeld_22 : decode cX0_numberHeld 22 = .ok (.iload 4, 2) := by decide +kernel
theorem dX0_numberHeld_24 : decode cX0_numberHeld 24 = .ok (.iload_n 1, 1) := by decide +kernel
theorem dX0_numberHeld_25 : decode cX0_numberHeld 25 = .ok (.invokevirtual 54, 3) := by decide +kernel
theorem dX0_numberHeld_28 : decode cX0_numberHeld 28 = .ok (.i2l, 1) := by decide +kernel
theorem dX0_numberHeld_29 : decode cX0_numberHeld 29 = .ok (.ladd, 1) := by decide +kernel
theorem dX0_numberHeld_30 : decode cX0_numberHeld 30 = .ok (.lstore_n 2, 1) := by decide +kernel
theorem dX0_numberHeld_31 : decode cX0_numberHeld 31 = .ok (.iinc 4 1, 3) := by decide +kernel
theorem dX0_numberHeld_34 : decode cX0_numberHeld 34 = .ok (.goto (-26), 3) := by decide +kernel
theorem dX0_numberHeld_37 : decode cX0_numberHeld 37 = .ok (.aload_n 0, 1) := by decide +kernel
theorem dX0_numberHeld_38 : decode cX0_numberHeld 38 = .ok (.bipush 45, 2) := by decide +kernel
theorem dX0_numberHeld_40 : decode cX0_numberHeld 40 = .ok (.invokevirtual 34, 3) := by decide +kernel
theorem dX0_numberHeld_43 : decode cX0_numberHeld 43 = .ok (.ifCond .eq 8, 3) := by decide +kernel
theorem dX0_numberHeld_46 : decode cX0_numberHeld 46 = .ok (.lload_n 2, 1) := by decide +kernel
theorem dX0_numberHeld_47 : decode cX0_numberHeld 47 = .ok (.lneg, 1) := by decide +kernel
theorem dX0_numberHeld_48 : decode cX0_numberHeld 48 = .ok (.goto 4, 3) := by decide +kernel
theorem dX0_numberHeld_51 : decode cX0_numberHeld 51 = .ok (.lload_n 2, 1) := by decide +kernel
theorem dX0_numberHeld_52 : decode cX0_numberHeld 52 = .ok (.lreturn, 1) := by decide +kernel
theorem dX0_startsWith_0 : decode cX0_startsWith 0 = .ok (.aload_n 0, 1) := by decide +kernel
theorem dX0_startsWith_1 : decode cX0_startsWith 1 = .ok (.getfield 15, 3) := by decide +kernel
theorem dX0_startsWith_4 : decode cX0_startsWith 4 = .ok (.ifCond .le 17, 3) := by decide +kernel
theorem dX0_startsWith_7 : decode cX0_startsWith 7 = .ok (.aload_n 0, 1) := by decide +kernel
theorem dX0_startsWith_8 : decode cX0_startsWith 8 = .ok (.getfield 9, 3) := by decide +kernel
theorem dX0_startsWith_11 : decode cX0_startsWith 11 = .ok (.iconst 0, 1) := by decide +kernel
theorem dX0_startsWith_12 : decode cX0_startsWith 12 = .ok (.caload, 1) := by decide +kernel
theorem dX0_startsWith_13 : decode cX0_startsWith 13 = .ok (.iload_n 1, 1) := by decide +kernel
theorem dX0_startsWith_14 : decode cX0_startsWith 14 = .ok (.if_icmp .ne 7, 3) := by decide +kernel
theorem dX0_startsWith_17 : decode cX0_startsWith 17 = .ok (.iconst 1, 1) := by decide +kernel
theorem dX0_startsWith_18 : decode cX0_startsWith 18 = .ok (.goto 4, 3) := by decide +kernel
theorem dX0_startsWith_21 : decode cX0_startsWith 21 = .ok (.iconst 0, 1) := by decide +kernel
theorem dX0_startsWith_22 : decode cX0_startsWith 22 = .ok (.ireturn, 1) := by decide +kernel
set_option maxRecDepth 20000 in
theorem ggX0_firstDigit_X0_startsWith : GoodIn wsX0_firstDigit wsX0_startsWith := goodIn_r _ [5, 6, 7, 8, 9] (by decide +kernel) (by decide +kernel)
set_option maxRecDepth 20000 in
theorem gX0_firstDigit_X0_startsWith : GoodIn wsX0_firstDigit (wsV RX0 34 RX0 yX0_startsWith wsX0_startsWith) := goodIn_app (goodIn_of _ (by decide +kernel)) ggX0_firstDigit_X0_startsWith
theorem dX0_firstDigit_0 : decode cX0_firstDigit 0 = .ok (.aload_n 0, 1) := by decide +kernel
theorem dX0_firstDigit_1 : decode cX0_firstDigit 1 = .ok (.bipush 45, 2) := by decide +kernel
theorem dX0_firstDigit_3 : decode cX0_firstDigit 3 = .ok (.invokevirtual 34, 3) := by decide +kernel
theorem dX0_firstDigit_6 : decode cX0_firstDigit 6 = .ok (.ifCond .ne 12, 3) := by decide +kernel
theorem dX0_firstDigit_9 : decode cX0_firstDigit 9 = .ok (.aload_n 0, 1) := by decide +kernel
theorem dX0_firstDigit_10 : decode cX0_firstDigit 10 = .ok (.bipush 43, 2) := by decide +kernel
theorem dX0_firstDigit_12 : decode cX0_firstDigit 12 = .ok (.invokevirtual 34, 3) := by decide +kernel
theorem dX0_firstDigit_15 : decode cX0_firstDigit 15 = .ok (.ifCond .eq 7, 3) := by decide +kernel
theorem dX0_firstDigit_18 : decode cX0_firstDigit 18 = .ok (.iconst 1, 1) := by decide +kernel
theorem dX0_firstDigit_19 : decode cX0_firstDigit 19 = .ok (.goto 4, 3) := by decide +kernel
theorem dX0_firstDigit_22 : decode cX0_firstDigit 22 = .ok (.iconst 0, 1) := by decide +kernel
theorem dX0_firstDigit_23 : decode cX0_firstDigit 23 = .ok (.ireturn, 1) := by decide +kernel
theorem dX0_greatest_0 : decode cX0_greatest 0 = .ok (.iload_n 0, 1) := by decide +kernel
theorem dX0_greatest_1 : decode cX0_greatest 1 = .ok (.tableswitch 59 0 2 #[27, 41, 45], 27) := by decide +kernel
theorem dX0_greatest_28 : decode cX0_greatest 28 = .ok (.iload_n 1, 1) := by decide +kernel
theorem dX0_greatest_29 : decode cX0_greatest 29 = .ok (.ifCond .eq 9, 3) := by decide +kernel
theorem dX0_greatest_32 : decode cX0_greatest 32 = .ok (.ldc2_w 58, 3) := by decide +kernel
theorem dX0_greatest_35 : decode cX0_greatest 35 = .ok (.goto 6, 3) := by decide +kernel
theorem dX0_greatest_38 : decode cX0_greatest 38 = .ok (.ldc2_w 60, 3) := by decide +kernel
theorem dX0_greatest_41 : decode cX0_greatest 41 = .ok (.lreturn, 1) := by decide +kernel
theorem dX0_greatest_42 : decode cX0_greatest 42 = .ok (.ldc2_w 62, 3) := by decide +kernel
theorem dX0_greatest_45 : decode cX0_greatest 45 = .ok (.lreturn, 1) := by decide +kernel
theorem dX0_greatest_46 : decode cX0_greatest 46 = .ok (.iload_n 1, 1) := by decide +kernel
theorem dX0_greatest_47 : decode cX0_greatest 47 = .ok (.ifCond .eq 9, 3) := by decide +kernel
theorem dX0_greatest_50 : decode cX0_greatest 50 = .ok (.ldc2_w 66, 3) := by decide +kernel
theorem dX0_greatest_53 : decode cX0_greatest 53 = .ok (.goto 6, 3) := by decide +kernel
theorem dX0_greatest_56 : decode cX0_greatest 56 = .ok (.ldc2_w 68, 3) := by decide +kernel
theorem dX0_greatest_59 : decode cX0_greatest 59 = .ok (.lreturn, 1) := by decide +kernel
theorem dX0_greatest_60 : decode cX0_greatest 60 = .ok (.ldc2_w 70, 3) := by decide +kernel
theorem dX0_greatest_63 : decode cX0_greatest 63 = .ok (.lreturn, 1) := by decide +kernel
set_option maxRecDepth 20000 in
theorem ggX0_isWithin_X1_quotient : GoodIn wsX0_isWithin wsX1_quotient := goodIn_r _ [5, 6, 7, 4, 8, 9] (by decide +kernel) (by decide +kernel)
set_option maxRecDepth 20000 in
theorem gX0_isWithin_X1_quotient : GoodIn wsX0_isWithin (va_wsS RX0 72 yX1_quotient wsX1_quotient) := goodIn_app (goodIn_of _ (by decide +kernel)) ggX0_isWithin_X1_quotient
set_option maxRecDepth 20000 in
theorem ggX0_isWithin_X0_digitAt : GoodIn wsX0_isWithin wsX0_digitAt := goodIn_r _ [14, 1, 15, 16, 17, 13, 18, 20, 21] (by decide +kernel) (by decide +kernel)
set_option maxRecDepth 20000 in
theorem gX0_isWithin_X0_digitAt : GoodIn wsX0_isWithin (wsV RX0 54 RX0 yX0_digitAt wsX0_digitAt) := goodIn_app (goodIn_of _ (by decide +kernel)) ggX0_isWithin_X0_digitAt
set_option maxRecDepth 20000 in
theorem ggX0_isWithin_X1_isLess : GoodIn wsX0_isWithin wsX1_isLess := goodIn_r _ [8, 9] (by decide +kernel) (by decide +kernel)
set_option maxRecDepth 20000 in
theorem gX0_isWithin_X1_isLess : GoodIn wsX0_isWithin (va_wsS RX0 78 yX1_isLess wsX1_isLess) := goodIn_app (goodIn_of _ (by decide +kernel)) ggX0_isWithin_X1_isLess
theorem dX0_isWithin_0 : decode cX0_isWithin 0 = .ok (.lload_n 3, 1) := by decide +kernel
theorem dX0_isWithin_1 : decode cX0_isWithin 1 = .ok (.iload_n 2, 1) := by decide +kernel
theorem dX0_isWithin_2 : decode cX0_isWithin 2 = .ok (.i2l, 1) := by decide +kernel
theorem dX0_isWithin_3 : decode cX0_isWithin 3 = .ok (.invokestatic 72, 3) := by decide +kernel
theorem dX0_isWithin_6 : decode cX0_isWithin 6 = .ok (.lstore 5, 2) := by decide +kernel
theorem dX0_isWithin_8 : decode cX0_isWithin 8 = .ok (.lload_n 3, 1) := by decide +kernel
theorem dX0_isWithin_9 : decode cX0_isWithin 9 = .ok (.lload 5, 2) := by decide +kernel
theorem dX0_isWithin_11 : decode cX0_isWithin 11 = .ok (.iload_n 2, 1) := by decide +kernel
theorem dX0_isWithin_12 : decode cX0_isWithin 12 = .ok (.i2l, 1) := by decide +kernel
theorem dX0_isWithin_13 : decode cX0_isWithin 13 = .ok (.lmul, 1) := by decide +kernel
theorem dX0_isWithin_14 : decode cX0_isWithin 14 = .ok (.lsub, 1) := by decide +kernel
theorem dX0_isWithin_15 : decode cX0_isWithin 15 = .ok (.lstore 7, 2) := by decide +kernel
theorem dX0_isWithin_17 : decode cX0_isWithin 17 = .ok (.lconst 0, 1) := by decide +kernel
theorem dX0_isWithin_18 : decode cX0_isWithin 18 = .ok (.lstore 9, 2) := by decide +kernel
theorem dX0_isWithin_20 : decode cX0_isWithin 20 = .ok (.iload_n 1, 1) := by decide +kernel
theorem dX0_isWithin_21 : decode cX0_isWithin 21 = .ok (.istore 11, 2) := by decide +kernel
theorem dX0_isWithin_23 : decode cX0_isWithin 23 = .ok (.iload 11, 2) := by decide +kernel
theorem dX0_isWithin_25 : decode cX0_isWithin 25 = .ok (.aload_n 0, 1) := by decide +kernel
theorem dX0_isWithin_26 : decode cX0_isWithin 26 = .ok (.getfield 15, 3) := by decide +kernel
theorem dX0_isWithin_29 : decode cX0_isWithin 29 = .ok (.if_icmp .ge 64, 3) := by decide +kernel
theorem dX0_isWithin_32 : decode cX0_isWithin 32 = .ok (.aload_n 0, 1) := by decide +kernel
theorem dX0_isWithin_33 : decode cX0_isWithin 33 = .ok (.iload 11, 2) := by decide +kernel
theorem dX0_isWithin_35 : decode cX0_isWithin 35 = .ok (.iload_n 2, 1) := by decide +kernel
theorem dX0_isWithin_36 : decode cX0_isWithin 36 = .ok (.invokevirtual 54, 3) := by decide +kernel
theorem dX0_isWithin_39 : decode cX0_isWithin 39 = .ok (.istore 12, 2) := by decide +kernel
theorem dX0_isWithin_41 : decode cX0_isWithin 41 = .ok (.iload 12, 2) := by decide +kernel
theorem dX0_isWithin_43 : decode cX0_isWithin 43 = .ok (.iconst (-1), 1) := by decide +kernel
theorem dX0_isWithin_44 : decode cX0_isWithin 44 = .ok (.if_icmp .eq 30, 3) := by decide +kernel
theorem dX0_isWithin_47 : decode cX0_isWithin 47 = .ok (.lload 5, 2) := by decide +kernel
theorem dX0_isWithin_49 : decode cX0_isWithin 49 = .ok (.lload 9, 2) := by decide +kernel
theorem dX0_isWithin_51 : decode cX0_isWithin 51 = .ok (.invokestatic 78, 3) := by decide +kernel
theorem dX0_isWithin_54 : decode cX0_isWithin 54 = .ok (.ifCond .ne 20, 3) := by decide +kernel
theorem dX0_isWithin_57 : decode cX0_isWithin 57 = .ok (.lload 9, 2) := by decide +kernel
theorem dX0_isWithin_59 : decode cX0_isWithin 59 = .ok (.lload 5, 2) := by decide +kernel
theorem dX0_isWithin_61 : decode cX0_isWithin 61 = .ok (.lcmp, 1) := by decide +kernel
theorem dX0_isWithin_62 : decode cX0_isWithin 62 = .ok (.ifCond .ne 14, 3) := by decide +kernel
theorem dX0_isWithin_65 : decode cX0_isWithin 65 = .ok (.iload 12, 2) := by decide +kernel
theorem dX0_isWithin_67 : decode cX0_isWithin 67 = .ok (.i2l, 1) := by decide +kernel
theorem dX0_isWithin_68 : decode cX0_isWithin 68 = .ok (.lload 7, 2) := by decide +kernel
theorem dX0_isWithin_70 : decode cX0_isWithin 70 = .ok (.lcmp, 1) := by decide +kernel
theorem dX0_isWithin_71 : decode cX0_isWithin 71 = .ok (.ifCond .le 5, 3) := by decide +kernel
theorem dX0_isWithin_74 : decode cX0_isWithin 74 = .ok (.iconst 0, 1) := by decide +kernel
theorem dX0_isWithin_75 : decode cX0_isWithin 75 = .ok (.ireturn, 1) := by decide +kernel
theorem dX0_isWithin_76 : decode cX0_isWithin 76 = .ok (.lload 9, 2) := by decide +kernel
theorem dX0_isWithin_78 : decode cX0_isWithin 78 = .ok (.iload_n 2, 1) := by decide +kernel
theorem dX0_isWithin_79 : decode cX0_isWithin 79 = .ok (.i2l, 1) := by decide +kernel
theorem dX0_isWithin_80 : decode cX0_isWithin 80 = .ok (.lmul, 1) := by decide +kernel
theorem dX0_isWithin_81 : decode cX0_isWithin 81 = .ok (.iload 12, 2) := by decide +kernel
theorem dX0_isWithin_83 : decode cX0_isWithin 83 = .ok (.i2l, 1) := by decide +kernel
theorem dX0_isWithin_84 : decode cX0_isWithin 84 = .ok (.ladd, 1) := by decide +kernel
theorem dX0_isWithin_85 : decode cX0_isWithin 85 = .ok (.lstore 9, 2) := by decide +kernel
theorem dX0_isWithin_87 : decode cX0_isWithin 87 = .ok (.iinc 11 1, 3) := by decide +kernel
theorem dX0_isWithin_90 : decode cX0_isWithin 90 = .ok (.goto (-67), 3) := by decide +kernel
theorem dX0_isWithin_93 : decode cX0_isWithin 93 = .ok (.iconst 1, 1) := by decide +kernel
theorem dX0_isWithin_94 : decode cX0_isWithin 94 = .ok (.ireturn, 1) := by decide +kernel
set_option maxRecDepth 20000 in
theorem ggX0_tell_X1_quotient : GoodIn wsX0_tell wsX1_quotient := goodIn_r _ [5, 6, 7, 4, 8, 9] (by decide +kernel) (by decide +kernel)
set_option maxRecDepth 20000 in
theorem gX0_tell_X1_quotient : GoodIn wsX0_tell (va_wsS RX0 72 yX1_quotient wsX1_quotient) := goodIn_app (goodIn_of _ (by decide +kernel)) ggX0_tell_X1_quotient
set_option maxRecDepth 20000 in
theorem ggX0_tell_X0_signOf : GoodIn wsX0_tell wsX0_signOf := goodIn_r _ [13] (by decide +kernel) (by decide +kernel)
set_option maxRecDepth 20000 in
theorem gX0_tell_X0_signOf : GoodIn wsX0_tell (va_wsS RX0 82 yX0_signOf wsX0_signOf) := goodIn_app (goodIn_of _ (by decide +kernel)) ggX0_tell_X0_signOf
set_option maxRecDepth 20000 in
theorem ggX0_tell_X0_add : GoodIn wsX0_tell wsX0_add := goodIn_r _ [17, 1, 18, 23, 24] (by decide +kernel) (by decide +kernel)
set_option maxRecDepth 20000 in
theorem gX0_tell_X0_add : GoodIn wsX0_tell (wsV RX0 86 RX0 yX0_add wsX0_add) := goodIn_app (goodIn_of _ (by decide +kernel)) ggX0_tell_X0_add
set_option maxRecDepth 20000 in
theorem ggX0_tell_X0_turnRound : GoodIn wsX0_tell wsX0_turnRound := goodIn_r _ [22, 1, 18, 23, 24] (by decide +kernel) (by decide +kernel)
set_option maxRecDepth 20000 in
theorem gX0_tell_X0_turnRound : GoodIn wsX0_tell (wsV RX0 90 RX0 yX0_turnRound wsX0_turnRound) := goodIn_app (goodIn_of _ (by decide +kernel)) ggX0_tell_X0_turnRound
theorem dX0_tell_0 : decode cX0_tell 0 = .ok (.iload 4, 2) := by decide +kernel
theorem dX0_tell_2 : decode cX0_tell 2 = .ok (.ifCond .eq 13, 3) := by decide +kernel
theorem dX0_tell_5 : decode cX0_tell 5 = .ok (.lload_n 1, 1) := by decide +kernel
theorem dX0_tell_6 : decode cX0_tell 6 = .ok (.lconst 0, 1) := by decide +kernel
theorem dX0_tell_7 : decode cX0_tell 7 = .ok (.lcmp, 1) := by decide +kernel
theorem dX0_tell_8 : decode cX0_tell 8 = .ok (.ifCond .ge 7, 3) := by decide +kernel
theorem dX0_tell_11 : decode cX0_tell 11 = .ok (.iconst 1, 1) := by decide +kernel
theorem dX0_tell_12 : decode cX0_tell 12 = .ok (.goto 4, 3) := by decide +kernel
theorem dX0_tell_15 : decode cX0_tell 15 = .ok (.iconst 0, 1) := by decide +kernel
theorem dX0_tell_16 : decode cX0_tell 16 = .ok (.istore 5, 2) := by decide +kernel
theorem dX0_tell_18 : decode cX0_tell 18 = .ok (.iload 5, 2) := by decide +kernel
theorem dX0_tell_20 : decode cX0_tell 20 = .ok (.ifCond .eq 8, 3) := by decide +kernel
theorem dX0_tell_23 : decode cX0_tell 23 = .ok (.lload_n 1, 1) := by decide +kernel
theorem dX0_tell_24 : decode cX0_tell 24 = .ok (.lneg, 1) := by decide +kernel
theorem dX0_tell_25 : decode cX0_tell 25 = .ok (.goto 4, 3) := by decide +kernel
theorem dX0_tell_28 : decode cX0_tell 28 = .ok (.lload_n 1, 1) := by decide +kernel
theorem dX0_tell_29 : decode cX0_tell 29 = .ok (.lstore 6, 2) := by decide +kernel
theorem dX0_tell_31 : decode cX0_tell 31 = .ok (.aload_n 0, 1) := by decide +kernel
theorem dX0_tell_32 : decode cX0_tell 32 = .ok (.iconst 0, 1) := by decide +kernel
theorem dX0_tell_33 : decode cX0_tell 33 = .ok (.putfield 15, 3) := by decide +kernel
theorem dX0_tell_36 : decode cX0_tell 36 = .ok (.iconst 0, 1) := by decide +kernel
theorem dX0_tell_37 : decode cX0_tell 37 = .ok (.istore 8, 2) := by decide +kernel
theorem dX0_tell_39 : decode cX0_tell 39 = .ok (.iload 8, 2) := by decide +kernel
theorem dX0_tell_41 : decode cX0_tell 41 = .ok (.bipush 64, 2) := by decide +kernel
theorem dX0_tell_43 : decode cX0_tell 43 = .ok (.if_icmp .ge 51, 3) := by decide +kernel
theorem dX0_tell_46 : decode cX0_tell 46 = .ok (.iload 8, 2) := by decide +kernel
theorem dX0_tell_48 : decode cX0_tell 48 = .ok (.ifCond .eq 10, 3) := by decide +kernel
theorem dX0_tell_51 : decode cX0_tell 51 = .ok (.lload 6, 2) := by decide +kernel
theorem dX0_tell_53 : decode cX0_tell 53 = .ok (.lconst 0, 1) := by decide +kernel
theorem dX0_tell_54 : decode cX0_tell 54 = .ok (.lcmp, 1) := by decide +kernel
theorem dX0_tell_55 : decode cX0_tell 55 = .ok (.ifCond .eq 39, 3) := by decide +kernel
theorem dX0_tell_58 : decode cX0_tell 58 = .ok (.lload 6, 2) := by decide +kernel
theorem dX0_tell_60 : decode cX0_tell 60 = .ok (.iload_n 3, 1) := by decide +kernel
theorem dX0_tell_61 : decode cX0_tell 61 = .ok (.i2l, 1) := by decide +kernel
theorem dX0_tell_62 : decode cX0_tell 62 = .ok (.invokestatic 72, 3) := by decide +kernel
theorem dX0_tell_65 : decode cX0_tell 65 = .ok (.lstore 9, 2) := by decide +kernel
theorem dX0_tell_67 : decode cX0_tell 67 = .ok (.aload_n 0, 1) := by decide +kernel
theorem dX0_tell_68 : decode cX0_tell 68 = .ok (.lload 6, 2) := by decide +kernel
theorem dX0_tell_70 : decode cX0_tell 70 = .ok (.lload 9, 2) := by decide +kernel
theorem dX0_tell_72 : decode cX0_tell 72 = .ok (.iload_n 3, 1) := by decide +kernel
theorem dX0_tell_73 : decode cX0_tell 73 = .ok (.i2l, 1) := by decide +kernel
theorem dX0_tell_74 : decode cX0_tell 74 = .ok (.lmul, 1) := by decide +kernel
theorem dX0_tell_75 : decode cX0_tell 75 = .ok (.lsub, 1) := by decide +kernel
theorem dX0_tell_76 : decode cX0_tell 76 = .ok (.l2i, 1) := by decide +kernel
theorem dX0_tell_77 : decode cX0_tell 77 = .ok (.iconst 0, 1) := by decide +kernel
theorem dX0_tell_78 : decode cX0_tell 78 = .ok (.invokestatic 82, 3) := by decide +kernel
theorem dX0_tell_81 : decode cX0_tell 81 = .ok (.invokevirtual 86, 3) := by decide +kernel
theorem dX0_tell_84 : decode cX0_tell 84 = .ok (.lload 9, 2) := by decide +kernel
theorem dX0_tell_86 : decode cX0_tell 86 = .ok (.lstore 6, 2) := by decide +kernel
theorem dX0_tell_88 : decode cX0_tell 88 = .ok (.iinc 8 1, 3) := by decide +kernel
theorem dX0_tell_91 : decode cX0_tell 91 = .ok (.goto (-52), 3) := by decide +kernel
theorem dX0_tell_94 : decode cX0_tell 94 = .ok (.iload 5, 2) := by decide +kernel
theorem dX0_tell_96 : decode cX0_tell 96 = .ok (.ifCond .eq 9, 3) := by decide +kernel
theorem dX0_tell_99 : decode cX0_tell 99 = .ok (.aload_n 0, 1) := by decide +kernel
theorem dX0_tell_100 : decode cX0_tell 100 = .ok (.bipush 45, 2) := by decide +kernel
theorem dX0_tell_102 : decode cX0_tell 102 = .ok (.invokevirtual 86, 3) := by decide +kernel
theorem dX0_tell_105 : decode cX0_tell 105 = .ok (.aload_n 0, 1) := by decide +kernel
theorem dX0_tell_106 : decode cX0_tell 106 = .ok (.invokevirtual 90, 3) := by decide +kernel
theorem dX0_tell_109 : decode cX0_tell 109 = .ok (.return_, 1) := by decide +kernel
theorem dX0_turnRound_0 : decode cX0_turnRound 0 = .ok (.iconst 0, 1) := by decide +kernel
theorem dX0_turnRound_1 : decode cX0_turnRound 1 = .ok (.istore_n 1, 1) := by decide +kernel
theorem dX0_turnRound_2 : decode cX0_turnRound 2 = .ok (.aload_n 0, 1) := by decide +kernel
theorem dX0_turnRound_3 : decode cX0_turnRound 3 = .ok (.getfield 15, 3) := by decide +kernel
theorem dX0_turnRound_6 : decode cX0_turnRound 6 = .ok (.iconst 1, 1) := by decide +kernel
theorem dX0_turnRound_7 : decode cX0_turnRound 7 = .ok (.isub, 1) := by decide +kernel
theorem dX0_turnRound_8 : decode cX0_turnRound 8 = .ok (.istore_n 2, 1) := by decide +kernel
theorem dX0_turnRound_9 : decode cX0_turnRound 9 = .ok (.iload_n 1, 1) := by decide +kernel
theorem dX0_turnRound_10 : decode cX0_turnRound 10 = .ok (.iload_n 2, 1) := by decide +kernel
theorem dX0_turnRound_11 : decode cX0_turnRound 11 = .ok (.if_icmp .ge 38, 3) := by decide +kernel
theorem dX0_turnRound_14 : decode cX0_turnRound 14 = .ok (.aload_n 0, 1) := by decide +kernel
theorem dX0_turnRound_15 : decode cX0_turnRound 15 = .ok (.getfield 9, 3) := by decide +kernel
theorem dX0_turnRound_18 : decode cX0_turnRound 18 = .ok (.iload_n 1, 1) := by decide +kernel
theorem dX0_turnRound_19 : decode cX0_turnRound 19 = .ok (.caload, 1) := by decide +kernel
theorem dX0_turnRound_20 : decode cX0_turnRound 20 = .ok (.istore_n 3, 1) := by decide +kernel
theorem dX0_turnRound_21 : decode cX0_turnRound 21 = .ok (.aload_n 0, 1) := by decide +kernel
theorem dX0_turnRound_22 : decode cX0_turnRound 22 = .ok (.getfield 9, 3) := by decide +kernel
theorem dX0_turnRound_25 : decode cX0_turnRound 25 = .ok (.iload_n 1, 1) := by decide +kernel
theorem dX0_turnRound_26 : decode cX0_turnRound 26 = .ok (.aload_n 0, 1) := by decide +kernel
theorem dX0_turnRound_27 : decode cX0_turnRound 27 = .ok (.getfield 9, 3) := by decide +kernel
theorem dX0_turnRound_30 : decode cX0_turnRound 30 = .ok (.iload_n 2, 1) := by decide +kernel
theorem dX0_turnRound_31 : decode cX0_turnRound 31 = .ok (.caload, 1) := by decide +kernel
theorem dX0_turnRound_32 : decode cX0_turnRound 32 = .ok (.castore, 1) := by decide +kernel
theorem dX0_turnRound_33 : decode cX0_turnRound 33 = .ok (.aload_n 0, 1) := by decide +kernel
theorem dX0_turnRound_34 : decode cX0_turnRound 34 = .ok (.getfield 9, 3) := by decide +kernel
theorem dX0_turnRound_37 : decode cX0_turnRound 37 = .ok (.iload_n 2, 1) := by decide +kernel
theorem dX0_turnRound_38 : decode cX0_turnRound 38 = .ok (.iload_n 3, 1) := by decide +kernel
theorem dX0_turnRound_39 : decode cX0_turnRound 39 = .ok (.castore, 1) := by decide +kernel
theorem dX0_turnRound_40 : decode cX0_turnRound 40 = .ok (.iinc 1 1, 3) := by decide +kernel
theorem dX0_turnRound_43 : decode cX0_turnRound 43 = .ok (.iinc 2 (-1), 3) := by decide +kernel
theorem dX0_turnRound_46 : decode cX0_turnRound 46 = .ok (.goto (-37), 3) := by decide +kernel
theorem dX0_turnRound_49 : decode cX0_turnRound 49 = .ok (.return_, 1) := by decide +kernel
theorem dX1_isLess_0 : decode cX1_isLess 0 = .ok (.lload_n 0, 1) := by decide +kernel
theorem dX1_isLess_1 : decode cX1_isLess 1 = .ok (.ldc2_w 9, 3) := by decide +kernel
theorem dX1_isLess_4 : decode cX1_isLess 4 = .ok (.ladd, 1) := by decide +kernel
theorem dX1_isLess_5 : decode cX1_isLess 5 = .ok (.lload_n 2, 1) := by decide +kernel
theorem dX1_isLess_6 : decode cX1_isLess 6 = .ok (.ldc2_w 9, 3) := by decide +kernel
theorem dX1_isLess_9 : decode cX1_isLess 9 = .ok (.ladd, 1) := by decide +kernel
theorem dX1_isLess_10 : decode cX1_isLess 10 = .ok (.lcmp, 1) := by decide +kernel
theorem dX1_isLess_11 : decode cX1_isLess 11 = .ok (.ifCond .ge 7, 3) := by decide +kernel
theorem dX1_isLess_14 : decode cX1_isLess 14 = .ok (.iconst 1, 1) := by decide +kernel
theorem dX1_isLess_15 : decode cX1_isLess 15 = .ok (.goto 4, 3) := by decide +kernel
theorem dX1_isLess_18 : decode cX1_isLess 18 = .ok (.iconst 0, 1) := by decide +kernel
theorem dX1_isLess_19 : decode cX1_isLess 19 = .ok (.ireturn, 1) := by decide +kernel
set_option maxRecDepth 20000 in
theorem ggX1_quotient_X1_isLess : GoodIn wsX1_quotient wsX1_isLess := goodIn_r _ [4, 5] (by decide +kernel) (by decide +kernel)
set_option maxRecDepth 20000 in
theorem gX1_quotient_X1_isLess : GoodIn wsX1_quotient (va_wsS RX1 11 yX1_isLess wsX1_isLess) := goodIn_app (goodIn_of _ (by decide +kernel)) ggX1_quotient_X1_isLess
theorem dX1_quotient_0 : decode cX1_quotient 0 = .ok (.lload_n 2, 1) := by decide +kernel
theorem dX1_quotient_1 : decode cX1_quotient 1 = .ok (.lconst 0, 1) := by decide +kernel
theorem dX1_quotient_2 : decode cX1_quotient 2 = .ok (.lcmp, 1) := by decide +kernel
theorem dX1_quotient_3 : decode cX1_quotient 3 = .ok (.ifCond .ne 5, 3) := by decide +kernel
theorem dX1_quotient_6 : decode cX1_quotient 6 = .ok (.lconst 0, 1) := by decide +kernel
theorem dX1_quotient_7 : decode cX1_quotient 7 = .ok (.lreturn, 1) := by decide +kernel
theorem dX1_quotient_8 : decode cX1_quotient 8 = .ok (.lload_n 2, 1) := by decide +kernel
theorem dX1_quotient_9 : decode cX1_quotient 9 = .ok (.lconst 0, 1) := by decide +kernel
theorem dX1_quotient_10 : decode cX1_quotient 10 = .ok (.lcmp, 1) := by decide +kernel
theorem dX1_quotient_11 : decode cX1_quotient 11 = .ok (.ifCond .ge 17, 3) := by decide +kernel
theorem dX1_quotient_14 : decode cX1_quotient 14 = .ok (.lload_n 0, 1) := by decide +kernel
theorem dX1_quotient_15 : decode cX1_quotient 15 = .ok (.lload_n 2, 1) := by decide +kernel
theorem dX1_quotient_16 : decode cX1_quotient 16 = .ok (.invokestatic 11, 3) := by decide +kernel
theorem dX1_quotient_19 : decode cX1_quotient 19 = .ok (.ifCond .eq 7, 3) := by decide +kernel
theorem dX1_quotient_22 : decode cX1_quotient 22 = .ok (.lconst 0, 1) := by decide +kernel
theorem dX1_quotient_23 : decode cX1_quotient 23 = .ok (.goto 4, 3) := by decide +kernel
theorem dX1_quotient_26 : decode cX1_quotient 26 = .ok (.lconst 1, 1) := by decide +kernel
theorem dX1_quotient_27 : decode cX1_quotient 27 = .ok (.lreturn, 1) := by decide +kernel
theorem dX1_quotient_28 : decode cX1_quotient 28 = .ok (.lload_n 0, 1) := by decide +kernel
theorem dX1_quotient_29 : decode cX1_quotient 29 = .ok (.iconst 1, 1) := by decide +kernel
theorem dX1_quotient_30 : decode cX1_quotient 30 = .ok (.lushr, 1) := by decide +kernel
theorem dX1_quotient_31 : decode cX1_quotient 31 = .ok (.lload_n 2, 1) := by decide +kernel
theorem dX1_quotient_32 : decode cX1_quotient 32 = .ok (.ldiv, 1) := by decide +kernel
theorem dX1_quotient_33 : decode cX1_quotient 33 = .ok (.iconst 1, 1) := by decide +kernel
theorem dX1_quotient_34 : decode cX1_quotient 34 = .ok (.lshl, 1) := by decide +kernel
theorem dX1_quotient_35 : decode cX1_quotient 35 = .ok (.lstore 4, 2) := by decide +kernel
theorem dX1_quotient_37 : decode cX1_quotient 37 = .ok (.lload_n 0, 1) := by decide +kernel
theorem dX1_quotient_38 : decode cX1_quotient 38 = .ok (.lload 4, 2) := by decide +kernel
theorem dX1_quotient_40 : decode cX1_quotient 40 = .ok (.lload_n 2, 1) := by decide +kernel
theorem dX1_quotient_41 : decode cX1_quotient 41 = .ok (.lmul, 1) := by decide +kernel
theorem dX1_quotient_42 : decode cX1_quotient 42 = .ok (.lsub, 1) := by decide +kernel
theorem dX1_quotient_43 : decode cX1_quotient 43 = .ok (.lload_n 2, 1) := by decide +kernel
theorem dX1_quotient_44 : decode cX1_quotient 44 = .ok (.invokestatic 11, 3) := by decide +kernel
theorem dX1_quotient_47 : decode cX1_quotient 47 = .ok (.ifCond .eq 8, 3) := by decide +kernel
theorem dX1_quotient_50 : decode cX1_quotient 50 = .ok (.lload 4, 2) := by decide +kernel
theorem dX1_quotient_52 : decode cX1_quotient 52 = .ok (.goto 7, 3) := by decide +kernel
theorem dX1_quotient_55 : decode cX1_quotient 55 = .ok (.lload 4, 2) := by decide +kernel
theorem dX1_quotient_57 : decode cX1_quotient 57 = .ok (.lconst 1, 1) := by decide +kernel
theorem dX1_quotient_58 : decode cX1_quotient 58 = .ok (.ladd, 1) := by decide +kernel
theorem dX1_quotient_59 : decode cX1_quotient 59 = .ok (.lreturn, 1) := by decide +kernel
set_option maxRecDepth 20000 in
theorem ggX2_init_X0_init : GoodIn wsX2_init wsX0_init := goodIn_r _ [13, 14, 2, 3, 15, 16, 24, 25] (by decide +kernel) (by decide +kernel)
set_option maxRecDepth 20000 in
theorem gX2_init_X0_init : GoodIn wsX2_init (wsX0_init) := ggX2_init_X0_init
theorem dX2_init_0 : decode cX2_init 0 = .ok (.aload_n 0, 1) := by decide +kernel
theorem dX2_init_1 : decode cX2_init 1 = .ok (.invokespecial 1, 3) := by decide +kernel
theorem dX2_init_4 : decode cX2_init 4 = .ok (.aload_n 0, 1) := by decide +kernel
theorem dX2_init_5 : decode cX2_init 5 = .ok (.bipush 8, 2) := by decide +kernel
theorem dX2_init_7 : decode cX2_init 7 = .ok (.newarray .long, 2) := by decide +kernel
theorem dX2_init_9 : decode cX2_init 9 = .ok (.putfield 9, 3) := by decide +kernel
theorem dX2_init_12 : decode cX2_init 12 = .ok (.aload_n 0, 1) := by decide +kernel
theorem dX2_init_13 : decode cX2_init 13 = .ok (.new 13, 3) := by decide +kernel
theorem dX2_init_16 : decode cX2_init 16 = .ok (.dup, 1) := by decide +kernel
theorem dX2_init_17 : decode cX2_init 17 = .ok (.invokespecial 15, 3) := by decide +kernel
theorem dX2_init_20 : decode cX2_init 20 = .ok (.putfield 16, 3) := by decide +kernel
theorem dX2_init_23 : decode cX2_init 23 = .ok (.aload_n 0, 1) := by decide +kernel
theorem dX2_init_24 : decode cX2_init 24 = .ok (.new 13, 3) := by decide +kernel
theorem dX2_init_27 : decode cX2_init 27 = .ok (.dup, 1) := by decide +kernel
theorem dX2_init_28 : decode cX2_init 28 = .ok (.invokespecial 15, 3) := by decide +kernel
theorem dX2_init_31 : decode cX2_init 31 = .ok (.putfield 20, 3) := by decide +kernel
theorem dX2_init_34 : decode cX2_init 34 = .ok (.return_, 1) := by decide +kernel
set_option maxRecDepth 20000 in
theorem ggX2_put_X2_checkCell : GoodIn wsX2_put wsX2_checkCell := goodIn_ca (goodIn_r _ [6, 7, 8] (by decide +kernel) (by decide +kernel)) (goodIn_sub (fun _ h => List.mem_cons_of_mem _ (List.mem_append_right _ h)) (by decide +kernel))
set_option maxRecDepth 20000 in
theorem gX2_put_X2_checkCell : GoodIn wsX2_put (va_wsS RX2 23 yX2_checkCell wsX2_checkCell) := goodIn_app (goodIn_of _ (by decide +kernel)) ggX2_put_X2_checkCell
set_option maxRecDepth 20000 in
theorem ggX2_put_J13_bitCount_95d88 : GoodIn wsX2_put wsJ13_bitCount_95d88 := goodIn_r _ [12, 13, 14, 15] (by decide +kernel) (by decide +kernel)
set_option maxRecDepth 20000 in
theorem gX2_put_J13_bitCount_95d88 : GoodIn wsX2_put (va_wsS RX2 29 yJ13_bitCount_95d88 wsJ13_bitCount_95d88) := goodIn_app (goodIn_of _ (by decide +kernel)) ggX2_put_J13_bitCount_95d88
theorem dX2_put_0 : decode cX2_put 0 = .ok (.iload_n 1, 1) := by decide +kernel
theorem dX2_put_1 : decode cX2_put 1 = .ok (.invokestatic 23, 3) := by decide +kernel
theorem dX2_put_4 : decode cX2_put 4 = .ok (.aload_n 0, 1) := by decide +kernel
theorem dX2_put_5 : decode cX2_put 5 = .ok (.getfield 9, 3) := by decide +kernel
theorem dX2_put_8 : decode cX2_put 8 = .ok (.iload_n 1, 1) := by decide +kernel
theorem dX2_put_9 : decode cX2_put 9 = .ok (.iload_n 2, 1) := by decide +kernel
theorem dX2_put_10 : decode cX2_put 10 = .ok (.i2l, 1) := by decide +kernel
theorem dX2_put_11 : decode cX2_put 11 = .ok (.bipush 32, 2) := by decide +kernel
theorem dX2_put_13 : decode cX2_put 13 = .ok (.lshl, 1) := by decide +kernel
theorem dX2_put_14 : decode cX2_put 14 = .ok (.iload_n 3, 1) := by decide +kernel
theorem dX2_put_15 : decode cX2_put 15 = .ok (.i2l, 1) := by decide +kernel
theorem dX2_put_16 : decode cX2_put 16 = .ok (.ldc2_w 27, 3) := by decide +kernel
theorem dX2_put_19 : decode cX2_put 19 = .ok (.land, 1) := by decide +kernel
theorem dX2_put_20 : decode cX2_put 20 = .ok (.lor, 1) := by decide +kernel
theorem dX2_put_21 : decode cX2_put 21 = .ok (.lastore, 1) := by decide +kernel
theorem dX2_put_22 : decode cX2_put 22 = .ok (.aload_n 0, 1) := by decide +kernel
theorem dX2_put_23 : decode cX2_put 23 = .ok (.getfield 9, 3) := by decide +kernel
theorem dX2_put_26 : decode cX2_put 26 = .ok (.iload_n 1, 1) := by decide +kernel
theorem dX2_put_27 : decode cX2_put 27 = .ok (.laload, 1) := by decide +kernel
theorem dX2_put_28 : decode cX2_put 28 = .ok (.invokestatic 29, 3) := by decide +kernel
theorem dX2_put_31 : decode cX2_put 31 = .ok (.ireturn, 1) := by decide +kernel
set_option maxRecDepth 20000 in
theorem ggX2_copy_X2_checkCell : GoodIn wsX2_copy wsX2_checkCell := goodIn_ca (goodIn_r _ [5, 6, 7] (by decide +kernel) (by decide +kernel)) (goodIn_sub (fun _ h => List.mem_cons_of_mem _ (List.mem_append_right _ h)) (by decide +kernel))
set_option maxRecDepth 20000 in
theorem gX2_copy_X2_checkCell : GoodIn wsX2_copy (va_wsS RX2 23 yX2_checkCell wsX2_checkCell) := goodIn_app (goodIn_of _ (by decide +kernel)) ggX2_copy_X2_checkCell
set_option maxRecDepth 20000 in
theorem ggX2_copy_X2_become : GoodIn wsX2_copy wsX2_become := goodIn_r _ [11, 1, 12, 13, 14, 15, 16, 17, 18] (by decide +kernel) (by decide +kernel)
set_option maxRecDepth 20000 in
theorem gX2_copy_X2_become : GoodIn wsX2_copy (wsV RX2 35 RX2 yX2_become wsX2_become) := goodIn_app (goodIn_of _ (by decide +kernel)) ggX2_copy_X2_become
theorem dX2_copy_0 : decode cX2_copy 0 = .ok (.iload_n 1, 1) := by decide +kernel
theorem dX2_copy_1 : decode cX2_copy 1 = .ok (.invokestatic 23, 3) := by decide +kernel
theorem dX2_copy_4 : decode cX2_copy 4 = .ok (.iload_n 2, 1) := by decide +kernel
theorem dX2_copy_5 : decode cX2_copy 5 = .ok (.invokestatic 23, 3) := by decide +kernel
theorem dX2_copy_8 : decode cX2_copy 8 = .ok (.aload_n 0, 1) := by decide +kernel
theorem dX2_copy_9 : decode cX2_copy 9 = .ok (.iload_n 1, 1) := by decide +kernel
theorem dX2_copy_10 : decode cX2_copy 10 = .ok (.aload_n 0, 1) := by decide +kernel
theorem dX2_copy_11 : decode cX2_copy 11 = .ok (.getfield 9, 3) := by decide +kernel
theorem dX2_copy_14 : decode cX2_copy 14 = .ok (.iload_n 2, 1) := by decide +kernel
theorem dX2_copy_15 : decode cX2_copy 15 = .ok (.laload, 1) := by decide +kernel
theorem dX2_copy_16 : decode cX2_copy 16 = .ok (.invokevirtual 35, 3) := by decide +kernel
theorem dX2_copy_19 : decode cX2_copy 19 = .ok (.ireturn, 1) := by decide +kernel
set_option maxRecDepth 20000 in
theorem ggX2_type_X0_isFull : GoodIn wsX2_type wsX0_isFull := goodIn_r _ [10, 11, 31, 32] (by decide +kernel) (by decide +kernel)
set_option maxRecDepth 20000 in
theorem gX2_type_X0_isFull : GoodIn wsX2_type (wsV RX2 46 RX0 yX0_isFull wsX0_isFull) := goodIn_app (goodIn_of _ (by decide +kernel)) ggX2_type_X0_isFull
set_option maxRecDepth 20000 in
theorem ggX2_type_X0_signOf : GoodIn wsX2_type wsX0_signOf := goodIn_r _ [14] (by decide +kernel) (by decide +kernel)
set_option maxRecDepth 20000 in
theorem gX2_type_X0_signOf : GoodIn wsX2_type (va_wsS RX2 55 yX0_signOf wsX0_signOf) := goodIn_app (goodIn_of _ (by decide +kernel)) ggX2_type_X0_signOf
set_option maxRecDepth 20000 in
theorem ggX2_type_X0_add : GoodIn wsX2_type wsX0_add := goodIn_r _ [18, 11, 19, 31, 32] (by decide +kernel) (by decide +kernel)
set_option maxRecDepth 20000 in
theorem gX2_type_X0_add : GoodIn wsX2_type (wsV RX2 59 RX0 yX0_add wsX0_add) := goodIn_app (goodIn_of _ (by decide +kernel)) ggX2_type_X0_add
set_option maxRecDepth 20000 in
theorem ggX2_type_X0_size : GoodIn wsX2_type wsX0_size := goodIn_r _ [23, 11, 31, 32] (by decide +kernel) (by decide +kernel)
set_option maxRecDepth 20000 in
theorem gX2_type_X0_size : GoodIn wsX2_type (wsV RX2 63 RX0 yX0_size wsX0_size) := goodIn_app (goodIn_of _ (by decide +kernel)) ggX2_type_X0_size
theorem dX2_type_0 : decode cX2_type 0 = .ok (.iload_n 1, 1) := by decide +kernel
theorem dX2_type_1 : decode cX2_type 1 = .ok (.ifCond .lt 9, 3) := by decide +kernel
theorem dX2_type_4 : decode cX2_type 4 = .ok (.iload_n 1, 1) := by decide +kernel
theorem dX2_type_5 : decode cX2_type 5 = .ok (.bipush 37, 2) := by decide +kernel
theorem dX2_type_7 : decode cX2_type 7 = .ok (.if_icmp .le 13, 3) := by decide +kernel
theorem dX2_type_10 : decode cX2_type 10 = .ok (.new 39, 3) := by decide +kernel
theorem dX2_type_13 : decode cX2_type 13 = .ok (.dup, 1) := by decide +kernel
theorem dX2_type_14 : decode cX2_type 14 = .ok (.ldc 41, 2) := by decide +kernel
theorem dX2_type_16 : decode cX2_type 16 = .ok (.invokespecial 43, 3) := by decide +kernel
theorem dX2_type_19 : decode cX2_type 19 = .ok (.athrow, 1) := by decide +kernel
theorem dX2_type_20 : decode cX2_type 20 = .ok (.aload_n 0, 1) := by decide +kernel
theorem dX2_type_21 : decode cX2_type 21 = .ok (.getfield 16, 3) := by decide +kernel
theorem dX2_type_24 : decode cX2_type 24 = .ok (.invokevirtual 46, 3) := by decide +kernel
theorem dX2_type_27 : decode cX2_type 27 = .ok (.ifCond .eq 13, 3) := by decide +kernel
theorem dX2_type_30 : decode cX2_type 30 = .ok (.new 50, 3) := by decide +kernel
theorem dX2_type_33 : decode cX2_type 33 = .ok (.dup, 1) := by decide +kernel
theorem dX2_type_34 : decode cX2_type 34 = .ok (.ldc 52, 2) := by decide +kernel
theorem dX2_type_36 : decode cX2_type 36 = .ok (.invokespecial 54, 3) := by decide +kernel
theorem dX2_type_39 : decode cX2_type 39 = .ok (.athrow, 1) := by decide +kernel
theorem dX2_type_40 : decode cX2_type 40 = .ok (.aload_n 0, 1) := by decide +kernel
theorem dX2_type_41 : decode cX2_type 41 = .ok (.getfield 16, 3) := by decide +kernel
theorem dX2_type_44 : decode cX2_type 44 = .ok (.iload_n 1, 1) := by decide +kernel
theorem dX2_type_45 : decode cX2_type 45 = .ok (.iload_n 2, 1) := by decide +kernel
theorem dX2_type_46 : decode cX2_type 46 = .ok (.invokestatic 55, 3) := by decide +kernel
theorem dX2_type_49 : decode cX2_type 49 = .ok (.invokevirtual 59, 3) := by decide +kernel
theorem dX2_type_52 : decode cX2_type 52 = .ok (.aload_n 0, 1) := by decide +kernel
theorem dX2_type_53 : decode cX2_type 53 = .ok (.getfield 16, 3) := by decide +kernel
theorem dX2_type_56 : decode cX2_type 56 = .ok (.invokevirtual 63, 3) := by decide +kernel
theorem dX2_type_59 : decode cX2_type 59 = .ok (.ireturn, 1) := by decide +kernel
set_option maxRecDepth 20000 in
theorem ggX2_erase_X0_size : GoodIn wsX2_erase wsX0_size := goodIn_r _ [8, 9, 21, 22] (by decide +kernel) (by decide +kernel)
set_option maxRecDepth 20000 in
theorem gX2_erase_X0_size : GoodIn wsX2_erase (wsV RX2 63 RX0 yX0_size wsX0_size) := goodIn_app (goodIn_of _ (by decide +kernel)) ggX2_erase_X0_size
set_option maxRecDepth 20000 in
theorem ggX2_erase_X0_dropLast : GoodIn wsX2_erase wsX0_dropLast := goodIn_r _ [13, 9, 21, 22] (by decide +kernel) (by decide +kernel)
set_option maxRecDepth 20000 in
theorem gX2_erase_X0_dropLast : GoodIn wsX2_erase (wsV RX2 69 RX0 yX0_dropLast wsX0_dropLast) := goodIn_app (goodIn_of _ (by decide +kernel)) ggX2_erase_X0_dropLast
theorem dX2_erase_0 : decode cX2_erase 0 = .ok (.aload_n 0, 1) := by decide +kernel
theorem dX2_erase_1 : decode cX2_erase 1 = .ok (.getfield 16, 3) := by decide +kernel
theorem dX2_erase_4 : decode cX2_erase 4 = .ok (.invokevirtual 63, 3) := by decide +kernel
theorem dX2_erase_7 : decode cX2_erase 7 = .ok (.ifCond .ne 13, 3) := by decide +kernel
theorem dX2_erase_10 : decode cX2_erase 10 = .ok (.new 50, 3) := by decide +kernel
theorem dX2_erase_13 : decode cX2_erase 13 = .ok (.dup, 1) := by decide +kernel
theorem dX2_erase_14 : decode cX2_erase 14 = .ok (.ldc 67, 2) := by decide +kernel
theorem dX2_erase_16 : decode cX2_erase 16 = .ok (.invokespecial 54, 3) := by decide +kernel
theorem dX2_erase_19 : decode cX2_erase 19 = .ok (.athrow, 1) := by decide +kernel
theorem dX2_erase_20 : decode cX2_erase 20 = .ok (.aload_n 0, 1) := by decide +kernel
theorem dX2_erase_21 : decode cX2_erase 21 = .ok (.getfield 16, 3) := by decide +kernel
theorem dX2_erase_24 : decode cX2_erase 24 = .ok (.invokevirtual 69, 3) := by decide +kernel
theorem dX2_erase_27 : decode cX2_erase 27 = .ok (.aload_n 0, 1) := by decide +kernel
theorem dX2_erase_28 : decode cX2_erase 28 = .ok (.getfield 16, 3) := by decide +kernel
theorem dX2_erase_31 : decode cX2_erase 31 = .ok (.invokevirtual 63, 3) := by decide +kernel
theorem dX2_erase_34 : decode cX2_erase 34 = .ok (.ireturn, 1) := by decide +kernel
set_option maxRecDepth 20000 in
theorem ggX2_clear_X0_size : GoodIn wsX2_clear wsX0_size := goodIn_r _ [6, 7, 19, 20] (by decide +kernel) (by decide +kernel)
set_option maxRecDepth 20000 in
theorem gX2_clear_X0_size : GoodIn wsX2_clear (wsV RX2 63 RX0 yX0_size wsX0_size) := goodIn_app (goodIn_of _ (by decide +kernel)) ggX2_clear_X0_size
set_option maxRecDepth 20000 in
theorem ggX2_clear_X0_empty : GoodIn wsX2_clear wsX0_empty := goodIn_r _ [11, 7, 19, 20] (by decide +kernel) (by decide +kernel)
set_option maxRecDepth 20000 in
theorem gX2_clear_X0_empty : GoodIn wsX2_clear (wsV RX2 72 RX0 yX0_empty wsX0_empty) := goodIn_app (goodIn_of _ (by decide +kernel)) ggX2_clear_X0_empty
theorem dX2_clear_0 : decode cX2_clear 0 = .ok (.aload_n 0, 1) := by decide +kernel
theorem dX2_clear_1 : decode cX2_clear 1 = .ok (.getfield 16, 3) := by decide +kernel
theorem dX2_clear_4 : decode cX2_clear 4 = .ok (.invokevirtual 63, 3) := by decide +kernel
theorem dX2_clear_7 : decode cX2_clear 7 = .ok (.istore_n 1, 1) := by decide +kernel
theorem dX2_clear_8 : decode cX2_clear 8 = .ok (.aload_n 0, 1) := by decide +kernel
theorem dX2_clear_9 : decode cX2_clear 9 = .ok (.getfield 16, 3) := by decide +kernel
theorem dX2_clear_12 : decode cX2_clear 12 = .ok (.invokevirtual 72, 3) := by decide +kernel
theorem dX2_clear_15 : decode cX2_clear 15 = .ok (.iload_n 1, 1) := by decide +kernel
theorem dX2_clear_16 : decode cX2_clear 16 = .ok (.ireturn, 1) := by decide +kernel
set_option maxRecDepth 20000 in
theorem ggX2_read_X2_checkCell : GoodIn wsX2_read wsX2_checkCell := goodIn_ca (goodIn_r _ [7, 8, 9] (by decide +kernel) (by decide +kernel)) (goodIn_sub (fun _ h => List.mem_cons_of_mem _ (List.mem_append_left _ (List.mem_append_right _ h))) (by decide +kernel))
set_option maxRecDepth 20000 in
theorem gX2_read_X2_checkCell : GoodIn wsX2_read (va_wsS RX2 23 yX2_checkCell wsX2_checkCell) := goodIn_app (goodIn_of _ (by decide +kernel)) ggX2_read_X2_checkCell
set_option maxRecDepth 20000 in
theorem ggX2_read_X2_checkRadixAndKind : GoodIn wsX2_read wsX2_checkRadixAndKind := goodIn_ca (goodIn_r _ [12, 13, 14, 6, 15, 16, 17, 18, 19, 20] (by decide +kernel) (by decide +kernel)) (goodIn_sub (fun _ h => List.mem_cons_of_mem _ (List.mem_append_right _ h)) (by decide +kernel))
set_option maxRecDepth 20000 in
theorem gX2_read_X2_checkRadixAndKind : GoodIn wsX2_read (va_wsS RX2 75 yX2_checkRadixAndKind wsX2_checkRadixAndKind) := goodIn_app (goodIn_of _ (by decide +kernel)) ggX2_read_X2_checkRadixAndKind
set_option maxRecDepth 20000 in
theorem ggX2_read_X0_isNumberOf : GoodIn wsX2_read wsX0_isNumberOf := goodIn_r _ [25, 26, 27, 28, 29, 24, 30, 31, 32, 6, 33, 34, 35, 36, 37, 38, 39, 40, 41, 42, 43, 44, 45, 46, 47, 48, 49, 50, 51, 52, 53, 54, 55, 56, 57, 58, 59, 60, 61, 62, 63, 64, 65, 66, 89, 90] (by decide +kernel) (by decide +kernel)
set_option maxRecDepth 20000 in
theorem gX2_read_X0_isNumberOf : GoodIn wsX2_read (wsV RX2 83 RX0 yX0_isNumberOf wsX0_isNumberOf) := goodIn_app (goodIn_of _ (by decide +kernel)) ggX2_read_X0_isNumberOf
set_option maxRecDepth 20000 in
theorem ggX2_read_X0_numberHeld : GoodIn wsX2_read wsX0_numberHeld := goodIn_r _ [70, 26, 34, 35, 36, 24, 37, 27, 28, 29, 30, 31, 59, 60, 61, 62, 63, 64, 65, 89, 90] (by decide +kernel) (by decide +kernel)
set_option maxRecDepth 20000 in
theorem gX2_read_X0_numberHeld : GoodIn wsX2_read (wsV RX2 90 RX0 yX0_numberHeld wsX0_numberHeld) := goodIn_app (goodIn_of _ (by decide +kernel)) ggX2_read_X0_numberHeld
set_option maxRecDepth 20000 in
theorem ggX2_read_X2_isOfInt : GoodIn wsX2_read wsX2_isOfInt := goodIn_r _ [73] (by decide +kernel) (by decide +kernel)
set_option maxRecDepth 20000 in
theorem gX2_read_X2_isOfInt : GoodIn wsX2_read (va_wsS RX2 94 yX2_isOfInt wsX2_isOfInt) := goodIn_app (goodIn_of _ (by decide +kernel)) ggX2_read_X2_isOfInt
set_option maxRecDepth 20000 in
theorem ggX2_read_X2_setting : GoodIn wsX2_read wsX2_setting := goodIn_r _ [76] (by decide +kernel) (by decide +kernel)
set_option maxRecDepth 20000 in
theorem gX2_read_X2_setting : GoodIn wsX2_read (va_wsS RX2 98 yX2_setting wsX2_setting) := goodIn_app (goodIn_of _ (by decide +kernel)) ggX2_read_X2_setting
set_option maxRecDepth 20000 in
theorem ggX2_read_X2_become : GoodIn wsX2_read wsX2_become := goodIn_r _ [80, 81, 82, 83, 84, 85, 86, 87, 88] (by decide +kernel) (by decide +kernel)
set_option maxRecDepth 20000 in
theorem gX2_read_X2_become : GoodIn wsX2_read (wsV RX2 35 RX2 yX2_become wsX2_become) := goodIn_app (goodIn_of _ (by decide +kernel)) ggX2_read_X2_become
theorem dX2_read_0 : decode cX2_read 0 = .ok (.iload_n 1, 1) := by decide +kernel
theorem dX2_read_1 : decode cX2_read 1 = .ok (.invokestatic 23, 3) := by decide +kernel
theorem dX2_read_4 : decode cX2_read 4 = .ok (.iload_n 2, 1) := by decide +kernel
theorem dX2_read_5 : decode cX2_read 5 = .ok (.iload_n 3, 1) := by decide +kernel
theorem dX2_read_6 : decode cX2_read 6 = .ok (.invokestatic 75, 3) := by decide +kernel
theorem dX2_read_9 : decode cX2_read 9 = .ok (.aload_n 0, 1) := by decide +kernel
theorem dX2_read_10 : decode cX2_read 10 = .ok (.dup, 1) := by decide +kernel
theorem dX2_read_11 : decode cX2_read 11 = .ok (.getfield 79, 3) := by decide +kernel
theorem dX2_read_14 : decode cX2_read 14 = .ok (.iconst 1, 1) := by decide +kernel
theorem dX2_read_15 : decode cX2_read 15 = .ok (.iadd, 1) := by decide +kernel
theorem dX2_read_16 : decode cX2_read 16 = .ok (.putfield 79, 3) := by decide +kernel
theorem dX2_read_19 : decode cX2_read 19 = .ok (.aload_n 0, 1) := by decide +kernel
theorem dX2_read_20 : decode cX2_read 20 = .ok (.getfield 16, 3) := by decide +kernel
theorem dX2_read_23 : decode cX2_read 23 = .ok (.iload_n 2, 1) := by decide +kernel
theorem dX2_read_24 : decode cX2_read 24 = .ok (.iload_n 3, 1) := by decide +kernel
theorem dX2_read_25 : decode cX2_read 25 = .ok (.invokevirtual 83, 3) := by decide +kernel
theorem dX2_read_28 : decode cX2_read 28 = .ok (.ifCond .ne 15, 3) := by decide +kernel
theorem dX2_read_31 : decode cX2_read 31 = .ok (.aload_n 0, 1) := by decide +kernel
theorem dX2_read_32 : decode cX2_read 32 = .ok (.dup, 1) := by decide +kernel
theorem dX2_read_33 : decode cX2_read 33 = .ok (.getfield 87, 3) := by decide +kernel
theorem dX2_read_36 : decode cX2_read 36 = .ok (.iconst 1, 1) := by decide +kernel
theorem dX2_read_37 : decode cX2_read 37 = .ok (.iadd, 1) := by decide +kernel
theorem dX2_read_38 : decode cX2_read 38 = .ok (.putfield 87, 3) := by decide +kernel
theorem dX2_read_41 : decode cX2_read 41 = .ok (.iconst 0, 1) := by decide +kernel
theorem dX2_read_42 : decode cX2_read 42 = .ok (.ireturn, 1) := by decide +kernel
theorem dX2_read_43 : decode cX2_read 43 = .ok (.aload_n 0, 1) := by decide +kernel
theorem dX2_read_44 : decode cX2_read 44 = .ok (.iload_n 1, 1) := by decide +kernel
theorem dX2_read_45 : decode cX2_read 45 = .ok (.aload_n 0, 1) := by decide +kernel
theorem dX2_read_46 : decode cX2_read 46 = .ok (.getfield 16, 3) := by decide +kernel
theorem dX2_read_49 : decode cX2_read 49 = .ok (.iload_n 2, 1) := by decide +kernel
theorem dX2_read_50 : decode cX2_read 50 = .ok (.invokevirtual 90, 3) := by decide +kernel
theorem dX2_read_53 : decode cX2_read 53 = .ok (.iload_n 3, 1) := by decide +kernel
theorem dX2_read_54 : decode cX2_read 54 = .ok (.invokestatic 94, 3) := by decide +kernel
theorem dX2_read_57 : decode cX2_read 57 = .ok (.invokestatic 98, 3) := by decide +kernel
theorem dX2_read_60 : decode cX2_read 60 = .ok (.invokevirtual 35, 3) := by decide +kernel
theorem dX2_read_63 : decode cX2_read 63 = .ok (.pop, 1) := by decide +kernel
theorem dX2_read_64 : decode cX2_read 64 = .ok (.iconst 1, 1) := by decide +kernel
theorem dX2_read_65 : decode cX2_read 65 = .ok (.ireturn, 1) := by decide +kernel
set_option maxRecDepth 20000 in
theorem ggX2_write_X2_checkCell : GoodIn wsX2_write wsX2_checkCell := goodIn_ca (goodIn_r _ [6, 7, 8] (by decide +kernel) (by decide +kernel)) (goodIn_sub (fun _ h => List.mem_cons_of_mem _ (List.mem_append_left _ (List.mem_append_right _ h))) (by decide +kernel))
set_option maxRecDepth 20000 in
theorem gX2_write_X2_checkCell : GoodIn wsX2_write (va_wsS RX2 23 yX2_checkCell wsX2_checkCell) := goodIn_app (goodIn_of _ (by decide +kernel)) ggX2_write_X2_checkCell
set_option maxRecDepth 20000 in
theorem ggX2_write_X2_checkRadixAndKind : GoodIn wsX2_write wsX2_checkRadixAndKind := goodIn_ca (goodIn_r _ [11, 12, 13, 5, 14, 15, 16, 17, 18, 19] (by decide +kernel) (by decide +kernel)) (goodIn_sub (fun _ h => List.mem_cons_of_mem _ (List.mem_append_right _ h)) (by decide +kernel))
set_option maxRecDepth 20000 in
theorem gX2_write_X2_checkRadixAndKind : GoodIn wsX2_write (va_wsS RX2 75 yX2_checkRadixAndKind wsX2_checkRadixAndKind) := goodIn_app (goodIn_of _ (by decide +kernel)) ggX2_write_X2_checkRadixAndKind
set_option maxRecDepth 20000 in
theorem ggX2_write_X2_tellInto : GoodIn wsX2_write wsX2_tellInto := goodIn_r _ [23, 24, 25, 5, 26, 27, 28, 29, 30, 31, 32, 33, 34, 35, 36, 37, 38, 39, 40, 41, 42, 43, 44, 45, 46, 47, 48, 49, 50, 51, 52, 53, 54, 55, 56, 57, 58, 59, 60, 61, 62, 63, 64, 65, 66, 67, 68, 73, 74, 75, 76, 77, 78, 79, 80, 81] (by decide +kernel) (by decide +kernel)
set_option maxRecDepth 20000 in
theorem gX2_write_X2_tellInto : GoodIn wsX2_write (wsV RX2 105 RX2 yX2_tellInto wsX2_tellInto) := goodIn_app (goodIn_of _ (by decide +kernel)) ggX2_write_X2_tellInto
set_option maxRecDepth 20000 in
theorem ggX2_write_X0_size : GoodIn wsX2_write wsX0_size := goodIn_r _ [72, 48, 80, 81] (by decide +kernel) (by decide +kernel)
set_option maxRecDepth 20000 in
theorem gX2_write_X0_size : GoodIn wsX2_write (wsV RX2 63 RX0 yX0_size wsX0_size) := goodIn_app (goodIn_of _ (by decide +kernel)) ggX2_write_X0_size
theorem dX2_write_0 : decode cX2_write 0 = .ok (.iload_n 1, 1) := by decide +kernel
theorem dX2_write_1 : decode cX2_write 1 = .ok (.invokestatic 23, 3) := by decide +kernel
theorem dX2_write_4 : decode cX2_write 4 = .ok (.iload_n 2, 1) := by decide +kernel
theorem dX2_write_5 : decode cX2_write 5 = .ok (.iload_n 3, 1) := by decide +kernel
theorem dX2_write_6 : decode cX2_write 6 = .ok (.invokestatic 75, 3) := by decide +kernel
theorem dX2_write_9 : decode cX2_write 9 = .ok (.aload_n 0, 1) := by decide +kernel
theorem dX2_write_10 : decode cX2_write 10 = .ok (.dup, 1) := by decide +kernel
theorem dX2_write_11 : decode cX2_write 11 = .ok (.getfield 102, 3) := by decide +kernel
theorem dX2_write_14 : decode cX2_write 14 = .ok (.iconst 1, 1) := by decide +kernel
theorem dX2_write_15 : decode cX2_write 15 = .ok (.iadd, 1) := by decide +kernel
theorem dX2_write_16 : decode cX2_write 16 = .ok (.putfield 102, 3) := by decide +kernel
theorem dX2_write_19 : decode cX2_write 19 = .ok (.aload_n 0, 1) := by decide +kernel
theorem dX2_write_20 : decode cX2_write 20 = .ok (.aload_n 0, 1) := by decide +kernel
theorem dX2_write_21 : decode cX2_write 21 = .ok (.getfield 16, 3) := by decide +kernel
theorem dX2_write_24 : decode cX2_write 24 = .ok (.iload_n 1, 1) := by decide +kernel
theorem dX2_write_25 : decode cX2_write 25 = .ok (.iload_n 2, 1) := by decide +kernel
theorem dX2_write_26 : decode cX2_write 26 = .ok (.iload_n 3, 1) := by decide +kernel
theorem dX2_write_27 : decode cX2_write 27 = .ok (.invokevirtual 105, 3) := by decide +kernel
theorem dX2_write_30 : decode cX2_write 30 = .ok (.aload_n 0, 1) := by decide +kernel
theorem dX2_write_31 : decode cX2_write 31 = .ok (.getfield 16, 3) := by decide +kernel
theorem dX2_write_34 : decode cX2_write 34 = .ok (.invokevirtual 63, 3) := by decide +kernel
theorem dX2_write_37 : decode cX2_write 37 = .ok (.ireturn, 1) := by decide +kernel
set_option maxRecDepth 20000 in
theorem ggX2_bits_X2_checkCell : GoodIn wsX2_bits wsX2_checkCell := goodIn_ca (goodIn_r _ [6, 7, 8] (by decide +kernel) (by decide +kernel)) (goodIn_sub (fun _ h => List.mem_cons_of_mem _ (List.mem_append_left _ (List.mem_append_right _ h))) (by decide +kernel))
set_option maxRecDepth 20000 in
theorem gX2_bits_X2_checkCell : GoodIn wsX2_bits (va_wsS RX2 23 yX2_checkCell wsX2_checkCell) := goodIn_app (goodIn_of _ (by decide +kernel)) ggX2_bits_X2_checkCell
set_option maxRecDepth 20000 in
theorem ggX2_bits_X2_checkWhat : GoodIn wsX2_bits wsX2_checkWhat := goodIn_ca (goodIn_r _ [11, 12, 13] (by decide +kernel) (by decide +kernel)) (goodIn_sub (fun _ h => List.mem_cons_of_mem _ (List.mem_append_right _ h)) (by decide +kernel))
set_option maxRecDepth 20000 in
theorem gX2_bits_X2_checkWhat : GoodIn wsX2_bits (va_wsS RX2 109 yX2_checkWhat wsX2_checkWhat) := goodIn_app (goodIn_of _ (by decide +kernel)) ggX2_bits_X2_checkWhat
set_option maxRecDepth 20000 in
theorem ggX2_bits_X2_unsignedOf : GoodIn wsX2_bits wsX2_unsignedOf := goodIn_r _ [17, 18, 19, 53, 54, 55, 56, 57, 58, 59] (by decide +kernel) (by decide +kernel)
set_option maxRecDepth 20000 in
theorem gX2_bits_X2_unsignedOf : GoodIn wsX2_bits (wsV RX2 112 RX2 yX2_unsignedOf wsX2_unsignedOf) := goodIn_app (goodIn_of _ (by decide +kernel)) ggX2_bits_X2_unsignedOf
set_option maxRecDepth 20000 in
theorem ggX2_bits_X2_radixOfBase : GoodIn wsX2_bits wsX2_radixOfBase := goodIn_r _ [22] (by decide +kernel) (by decide +kernel)
set_option maxRecDepth 20000 in
theorem gX2_bits_X2_radixOfBase : GoodIn wsX2_bits (va_wsS RX2 116 yX2_radixOfBase wsX2_radixOfBase) := goodIn_app (goodIn_of _ (by decide +kernel)) ggX2_bits_X2_radixOfBase
set_option maxRecDepth 20000 in
theorem ggX2_bits_X0_tell : GoodIn wsX2_bits wsX0_tell := goodIn_r _ [27, 28, 29, 30, 31, 32, 33, 34, 35, 36, 37, 38, 26, 39, 40, 41, 42, 43, 44, 45, 46, 47, 48, 60, 61] (by decide +kernel) (by decide +kernel)
set_option maxRecDepth 20000 in
theorem gX2_bits_X0_tell : GoodIn wsX2_bits (wsV RX2 120 RX0 yX0_tell wsX0_tell) := goodIn_app (goodIn_of _ (by decide +kernel)) ggX2_bits_X0_tell
set_option maxRecDepth 20000 in
theorem ggX2_bits_X0_size : GoodIn wsX2_bits wsX0_size := goodIn_r _ [52, 28, 60, 61] (by decide +kernel) (by decide +kernel)
set_option maxRecDepth 20000 in
theorem gX2_bits_X0_size : GoodIn wsX2_bits (wsV RX2 63 RX0 yX0_size wsX0_size) := goodIn_app (goodIn_of _ (by decide +kernel)) ggX2_bits_X0_size
theorem dX2_bits_0 : decode cX2_bits 0 = .ok (.iload_n 1, 1) := by decide +kernel
theorem dX2_bits_1 : decode cX2_bits 1 = .ok (.invokestatic 23, 3) := by decide +kernel
theorem dX2_bits_4 : decode cX2_bits 4 = .ok (.iload_n 2, 1) := by decide +kernel
theorem dX2_bits_5 : decode cX2_bits 5 = .ok (.iconst 2, 1) := by decide +kernel
theorem dX2_bits_6 : decode cX2_bits 6 = .ok (.invokestatic 109, 3) := by decide +kernel
theorem dX2_bits_9 : decode cX2_bits 9 = .ok (.aload_n 0, 1) := by decide +kernel
theorem dX2_bits_10 : decode cX2_bits 10 = .ok (.dup, 1) := by decide +kernel
theorem dX2_bits_11 : decode cX2_bits 11 = .ok (.getfield 102, 3) := by decide +kernel
theorem dX2_bits_14 : decode cX2_bits 14 = .ok (.iconst 1, 1) := by decide +kernel
theorem dX2_bits_15 : decode cX2_bits 15 = .ok (.iadd, 1) := by decide +kernel
theorem dX2_bits_16 : decode cX2_bits 16 = .ok (.putfield 102, 3) := by decide +kernel
theorem dX2_bits_19 : decode cX2_bits 19 = .ok (.aload_n 0, 1) := by decide +kernel
theorem dX2_bits_20 : decode cX2_bits 20 = .ok (.getfield 16, 3) := by decide +kernel
theorem dX2_bits_23 : decode cX2_bits 23 = .ok (.aload_n 0, 1) := by decide +kernel
theorem dX2_bits_24 : decode cX2_bits 24 = .ok (.iload_n 1, 1) := by decide +kernel
theorem dX2_bits_25 : decode cX2_bits 25 = .ok (.iload_n 3, 1) := by decide +kernel
theorem dX2_bits_26 : decode cX2_bits 26 = .ok (.invokevirtual 112, 3) := by decide +kernel
theorem dX2_bits_29 : decode cX2_bits 29 = .ok (.iload_n 2, 1) := by decide +kernel
theorem dX2_bits_30 : decode cX2_bits 30 = .ok (.invokestatic 116, 3) := by decide +kernel
theorem dX2_bits_33 : decode cX2_bits 33 = .ok (.iconst 0, 1) := by decide +kernel
theorem dX2_bits_34 : decode cX2_bits 34 = .ok (.invokevirtual 120, 3) := by decide +kernel
theorem dX2_bits_37 : decode cX2_bits 37 = .ok (.aload_n 0, 1) := by decide +kernel
theorem dX2_bits_38 : decode cX2_bits 38 = .ok (.getfield 16, 3) := by decide +kernel
theorem dX2_bits_41 : decode cX2_bits 41 = .ok (.invokevirtual 63, 3) := by decide +kernel
theorem dX2_bits_44 : decode cX2_bits 44 = .ok (.ireturn, 1) := by decide +kernel
set_option maxRecDepth 20000 in
theorem ggX2_divide_X2_checkCell : GoodIn wsX2_divide wsX2_checkCell := goodIn_ca (goodIn_r _ [4, 5, 6] (by decide +kernel) (by decide +kernel)) (goodIn_sub (fun _ h => List.mem_cons_of_mem _ (List.mem_append_left _ (List.mem_append_right _ h))) (by decide +kernel))
set_option maxRecDepth 20000 in
theorem gX2_divide_X2_checkCell : GoodIn wsX2_divide (va_wsS RX2 23 yX2_checkCell wsX2_checkCell) := goodIn_app (goodIn_of _ (by decide +kernel)) ggX2_divide_X2_checkCell
set_option maxRecDepth 20000 in
theorem ggX2_divide_X2_checkDivisor : GoodIn wsX2_divide wsX2_checkDivisor := goodIn_ca (goodIn_r _ [10, 11, 12, 13, 14, 15, 3, 16, 17, 18, 34, 35, 36, 37, 38, 39, 40] (by decide +kernel) (by decide +kernel)) (goodIn_sub (fun _ h => List.mem_cons_of_mem _ (List.mem_append_right _ h)) (by decide +kernel))
set_option maxRecDepth 20000 in
theorem gX2_divide_X2_checkDivisor : GoodIn wsX2_divide (wsV RX2 124 RX2 yX2_checkDivisor wsX2_checkDivisor) := goodIn_app (goodIn_of _ (by decide +kernel)) ggX2_divide_X2_checkDivisor
set_option maxRecDepth 20000 in
theorem ggX2_divide_X2_unsignedOf : GoodIn wsX2_divide wsX2_unsignedOf := goodIn_r _ [16, 17, 18, 34, 35, 36, 37, 38, 39, 40] (by decide +kernel) (by decide +kernel)
set_option maxRecDepth 20000 in
theorem gX2_divide_X2_unsignedOf : GoodIn wsX2_divide (wsV RX2 112 RX2 yX2_unsignedOf wsX2_unsignedOf) := goodIn_app (goodIn_of _ (by decide +kernel)) ggX2_divide_X2_unsignedOf
set_option maxRecDepth 20000 in
theorem ggX2_divide_X1_quotient : GoodIn wsX2_divide wsX1_quotient := goodIn_r _ [22, 23, 24, 21, 25, 26] (by decide +kernel) (by decide +kernel)
set_option maxRecDepth 20000 in
theorem gX2_divide_X1_quotient : GoodIn wsX2_divide (va_wsS RX2 128 yX1_quotient wsX1_quotient) := goodIn_app (goodIn_of _ (by decide +kernel)) ggX2_divide_X1_quotient
set_option maxRecDepth 20000 in
theorem ggX2_divide_X2_setting : GoodIn wsX2_divide wsX2_setting := goodIn_r _ [29] (by decide +kernel) (by decide +kernel)
set_option maxRecDepth 20000 in
theorem gX2_divide_X2_setting : GoodIn wsX2_divide (va_wsS RX2 98 yX2_setting wsX2_setting) := goodIn_app (goodIn_of _ (by decide +kernel)) ggX2_divide_X2_setting
set_option maxRecDepth 20000 in
theorem ggX2_divide_X2_become : GoodIn wsX2_divide wsX2_become := goodIn_r _ [33, 17, 34, 35, 36, 37, 38, 39, 40] (by decide +kernel) (by decide +kernel)
set_option maxRecDepth 20000 in
theorem gX2_divide_X2_become : GoodIn wsX2_divide (wsV RX2 35 RX2 yX2_become wsX2_become) := goodIn_app (goodIn_of _ (by decide +kernel)) ggX2_divide_X2_become
theorem dX2_divide_0 : decode cX2_divide 0 = .ok (.iload_n 1, 1) := by decide +kernel
theorem dX2_divide_1 : decode cX2_divide 1 = .ok (.invokestatic 23, 3) := by decide +kernel
theorem dX2_divide_4 : decode cX2_divide 4 = .ok (.iload_n 2, 1) := by decide +kernel
theorem dX2_divide_5 : decode cX2_divide 5 = .ok (.invokestatic 23, 3) := by decide +kernel
theorem dX2_divide_8 : decode cX2_divide 8 = .ok (.aload_n 0, 1) := by decide +kernel
theorem dX2_divide_9 : decode cX2_divide 9 = .ok (.iload_n 2, 1) := by decide +kernel
theorem dX2_divide_10 : decode cX2_divide 10 = .ok (.iload_n 3, 1) := by decide +kernel
theorem dX2_divide_11 : decode cX2_divide 11 = .ok (.invokevirtual 124, 3) := by decide +kernel
theorem dX2_divide_14 : decode cX2_divide 14 = .ok (.aload_n 0, 1) := by decide +kernel
theorem dX2_divide_15 : decode cX2_divide 15 = .ok (.iload_n 1, 1) := by decide +kernel
theorem dX2_divide_16 : decode cX2_divide 16 = .ok (.iload_n 3, 1) := by decide +kernel
theorem dX2_divide_17 : decode cX2_divide 17 = .ok (.invokevirtual 112, 3) := by decide +kernel
theorem dX2_divide_20 : decode cX2_divide 20 = .ok (.lstore 4, 2) := by decide +kernel
theorem dX2_divide_22 : decode cX2_divide 22 = .ok (.aload_n 0, 1) := by decide +kernel
theorem dX2_divide_23 : decode cX2_divide 23 = .ok (.iload_n 2, 1) := by decide +kernel
theorem dX2_divide_24 : decode cX2_divide 24 = .ok (.iload_n 3, 1) := by decide +kernel
theorem dX2_divide_25 : decode cX2_divide 25 = .ok (.invokevirtual 112, 3) := by decide +kernel
theorem dX2_divide_28 : decode cX2_divide 28 = .ok (.lstore 6, 2) := by decide +kernel
theorem dX2_divide_30 : decode cX2_divide 30 = .ok (.lload 4, 2) := by decide +kernel
theorem dX2_divide_32 : decode cX2_divide 32 = .ok (.lload 6, 2) := by decide +kernel
theorem dX2_divide_34 : decode cX2_divide 34 = .ok (.invokestatic 128, 3) := by decide +kernel
theorem dX2_divide_37 : decode cX2_divide 37 = .ok (.lstore 8, 2) := by decide +kernel
theorem dX2_divide_39 : decode cX2_divide 39 = .ok (.aload_n 0, 1) := by decide +kernel
theorem dX2_divide_40 : decode cX2_divide 40 = .ok (.iload_n 1, 1) := by decide +kernel
theorem dX2_divide_41 : decode cX2_divide 41 = .ok (.lload 8, 2) := by decide +kernel
theorem dX2_divide_43 : decode cX2_divide 43 = .ok (.iload_n 3, 1) := by decide +kernel
theorem dX2_divide_44 : decode cX2_divide 44 = .ok (.invokestatic 98, 3) := by decide +kernel
theorem dX2_divide_47 : decode cX2_divide 47 = .ok (.invokevirtual 35, 3) := by decide +kernel
theorem dX2_divide_50 : decode cX2_divide 50 = .ok (.pop, 1) := by decide +kernel
theorem dX2_divide_51 : decode cX2_divide 51 = .ok (.lload 4, 2) := by decide +kernel
theorem dX2_divide_53 : decode cX2_divide 53 = .ok (.lload 8, 2) := by decide +kernel
theorem dX2_divide_55 : decode cX2_divide 55 = .ok (.lload 6, 2) := by decide +kernel
theorem dX2_divide_57 : decode cX2_divide 57 = .ok (.lmul, 1) := by decide +kernel
theorem dX2_divide_58 : decode cX2_divide 58 = .ok (.lcmp, 1) := by decide +kernel
theorem dX2_divide_59 : decode cX2_divide 59 = .ok (.ifCond .eq 7, 3) := by decide +kernel
theorem dX2_divide_62 : decode cX2_divide 62 = .ok (.iconst 1, 1) := by decide +kernel
theorem dX2_divide_63 : decode cX2_divide 63 = .ok (.goto 4, 3) := by decide +kernel
theorem dX2_divide_66 : decode cX2_divide 66 = .ok (.iconst 0, 1) := by decide +kernel
theorem dX2_divide_67 : decode cX2_divide 67 = .ok (.ireturn, 1) := by decide +kernel
set_option maxRecDepth 20000 in
theorem ggX2_rest_X2_checkCell : GoodIn wsX2_rest wsX2_checkCell := goodIn_ca (goodIn_r _ [4, 5, 6] (by decide +kernel) (by decide +kernel)) (goodIn_sub (fun _ h => List.mem_cons_of_mem _ (List.mem_append_left _ (List.mem_append_right _ h))) (by decide +kernel))
set_option maxRecDepth 20000 in
theorem gX2_rest_X2_checkCell : GoodIn wsX2_rest (va_wsS RX2 23 yX2_checkCell wsX2_checkCell) := goodIn_app (goodIn_of _ (by decide +kernel)) ggX2_rest_X2_checkCell
set_option maxRecDepth 20000 in
theorem ggX2_rest_X2_checkDivisor : GoodIn wsX2_rest wsX2_checkDivisor := goodIn_ca (goodIn_r _ [10, 11, 12, 13, 14, 15, 3, 16, 17, 18, 34, 35, 36, 37, 38, 39, 40] (by decide +kernel) (by decide +kernel)) (goodIn_sub (fun _ h => List.mem_cons_of_mem _ (List.mem_append_right _ h)) (by decide +kernel))
set_option maxRecDepth 20000 in
theorem gX2_rest_X2_checkDivisor : GoodIn wsX2_rest (wsV RX2 124 RX2 yX2_checkDivisor wsX2_checkDivisor) := goodIn_app (goodIn_of _ (by decide +kernel)) ggX2_rest_X2_checkDivisor
set_option maxRecDepth 20000 in
theorem ggX2_rest_X2_unsignedOf : GoodIn wsX2_rest wsX2_unsignedOf := goodIn_r _ [16, 17, 18, 34, 35, 36, 37, 38, 39, 40] (by decide +kernel) (by decide +kernel)
set_option maxRecDepth 20000 in
theorem gX2_rest_X2_unsignedOf : GoodIn wsX2_rest (wsV RX2 112 RX2 yX2_unsignedOf wsX2_unsignedOf) := goodIn_app (goodIn_of _ (by decide +kernel)) ggX2_rest_X2_unsignedOf
set_option maxRecDepth 20000 in
theorem ggX2_rest_X1_quotient : GoodIn wsX2_rest wsX1_quotient := goodIn_r _ [22, 23, 24, 21, 25, 26] (by decide +kernel) (by decide +kernel)
set_option maxRecDepth 20000 in
theorem gX2_rest_X1_quotient : GoodIn wsX2_rest (va_wsS RX2 128 yX1_quotient wsX1_quotient) := goodIn_app (goodIn_of _ (by decide +kernel)) ggX2_rest_X1_quotient
set_option maxRecDepth 20000 in
theorem ggX2_rest_X2_setting : GoodIn wsX2_rest wsX2_setting := goodIn_r _ [29] (by decide +kernel) (by decide +kernel)
set_option maxRecDepth 20000 in
theorem gX2_rest_X2_setting : GoodIn wsX2_rest (va_wsS RX2 98 yX2_setting wsX2_setting) := goodIn_app (goodIn_of _ (by decide +kernel)) ggX2_rest_X2_setting
set_option maxRecDepth 20000 in
theorem ggX2_rest_X2_become : GoodIn wsX2_rest wsX2_become := goodIn_r _ [33, 17, 34, 35, 36, 37, 38, 39, 40] (by decide +kernel) (by decide +kernel)
set_option maxRecDepth 20000 in
theorem gX2_rest_X2_become : GoodIn wsX2_rest (wsV RX2 35 RX2 yX2_become wsX2_become) := goodIn_app (goodIn_of _ (by decide +kernel)) ggX2_rest_X2_become
theorem dX2_rest_0 : decode cX2_rest 0 = .ok (.iload_n 1, 1) := by decide +kernel
theorem dX2_rest_1 : decode cX2_rest 1 = .ok (.invokestatic 23, 3) := by decide +kernel
theorem dX2_rest_4 : decode cX2_rest 4 = .ok (.iload_n 2, 1) := by decide +kernel
theorem dX2_rest_5 : decode cX2_rest 5 = .ok (.invokestatic 23, 3) := by decide +kernel
theorem dX2_rest_8 : decode cX2_rest 8 = .ok (.aload_n 0, 1) := by decide +kernel
theorem dX2_rest_9 : decode cX2_rest 9 = .ok (.iload_n 2, 1) := by decide +kernel
theorem dX2_rest_10 : decode cX2_rest 10 = .ok (.iload_n 3, 1) := by decide +kernel
theorem dX2_rest_11 : decode cX2_rest 11 = .ok (.invokevirtual 124, 3) := by decide +kernel
theorem dX2_rest_14 : decode cX2_rest 14 = .ok (.aload_n 0, 1) := by decide +kernel
theorem dX2_rest_15 : decode cX2_rest 15 = .ok (.iload_n 1, 1) := by decide +kernel
theorem dX2_rest_16 : decode cX2_rest 16 = .ok (.iload_n 3, 1) := by decide +kernel
theorem dX2_rest_17 : decode cX2_rest 17 = .ok (.invokevirtual 112, 3) := by decide +kernel
theorem dX2_rest_20 : decode cX2_rest 20 = .ok (.lstore 4, 2) := by decide +kernel
theorem dX2_rest_22 : decode cX2_rest 22 = .ok (.aload_n 0, 1) := by decide +kernel
theorem dX2_rest_23 : decode cX2_rest 23 = .ok (.iload_n 2, 1) := by decide +kernel
theorem dX2_rest_24 : decode cX2_rest 24 = .ok (.iload_n 3, 1) := by decide +kernel
theorem dX2_rest_25 : decode cX2_rest 25 = .ok (.invokevirtual 112, 3) := by decide +kernel
theorem dX2_rest_28 : decode cX2_rest 28 = .ok (.lstore 6, 2) := by decide +kernel
theorem dX2_rest_30 : decode cX2_rest 30 = .ok (.lload 4, 2) := by decide +kernel
theorem dX2_rest_32 : decode cX2_rest 32 = .ok (.lload 4, 2) := by decide +kernel
theorem dX2_rest_34 : decode cX2_rest 34 = .ok (.lload 6, 2) := by decide +kernel
theorem dX2_rest_36 : decode cX2_rest 36 = .ok (.invokestatic 128, 3) := by decide +kernel
theorem dX2_rest_39 : decode cX2_rest 39 = .ok (.lload 6, 2) := by decide +kernel
theorem dX2_rest_41 : decode cX2_rest 41 = .ok (.lmul, 1) := by decide +kernel
theorem dX2_rest_42 : decode cX2_rest 42 = .ok (.lsub, 1) := by decide +kernel
theorem dX2_rest_43 : decode cX2_rest 43 = .ok (.lstore 8, 2) := by decide +kernel
theorem dX2_rest_45 : decode cX2_rest 45 = .ok (.aload_n 0, 1) := by decide +kernel
theorem dX2_rest_46 : decode cX2_rest 46 = .ok (.iload_n 1, 1) := by decide +kernel
theorem dX2_rest_47 : decode cX2_rest 47 = .ok (.lload 8, 2) := by decide +kernel
theorem dX2_rest_49 : decode cX2_rest 49 = .ok (.iload_n 3, 1) := by decide +kernel
theorem dX2_rest_50 : decode cX2_rest 50 = .ok (.invokestatic 98, 3) := by decide +kernel
theorem dX2_rest_53 : decode cX2_rest 53 = .ok (.invokevirtual 35, 3) := by decide +kernel
theorem dX2_rest_56 : decode cX2_rest 56 = .ok (.pop, 1) := by decide +kernel
theorem dX2_rest_57 : decode cX2_rest 57 = .ok (.lload 8, 2) := by decide +kernel
theorem dX2_rest_59 : decode cX2_rest 59 = .ok (.lconst 0, 1) := by decide +kernel
theorem dX2_rest_60 : decode cX2_rest 60 = .ok (.lcmp, 1) := by decide +kernel
theorem dX2_rest_61 : decode cX2_rest 61 = .ok (.ifCond .ne 7, 3) := by decide +kernel
theorem dX2_rest_64 : decode cX2_rest 64 = .ok (.iconst 1, 1) := by decide +kernel
theorem dX2_rest_65 : decode cX2_rest 65 = .ok (.goto 4, 3) := by decide +kernel
theorem dX2_rest_68 : decode cX2_rest 68 = .ok (.iconst 0, 1) := by decide +kernel
theorem dX2_rest_69 : decode cX2_rest 69 = .ok (.ireturn, 1) := by decide +kernel
set_option maxRecDepth 20000 in
theorem ggX2_turn_X2_checkCell : GoodIn wsX2_turn wsX2_checkCell := goodIn_ca (goodIn_r _ [5, 6, 7] (by decide +kernel) (by decide +kernel)) (goodIn_sub (fun _ h => List.mem_cons_of_mem _ (List.mem_append_right _ h)) (by decide +kernel))
set_option maxRecDepth 20000 in
theorem gX2_turn_X2_checkCell : GoodIn wsX2_turn (va_wsS RX2 23 yX2_checkCell wsX2_checkCell) := goodIn_app (goodIn_of _ (by decide +kernel)) ggX2_turn_X2_checkCell
set_option maxRecDepth 20000 in
theorem ggX2_turn_J6_rotateLeft_7cf53 : GoodIn wsX2_turn wsJ6_rotateLeft_7cf53 := goodIn_r _ [11] (by decide +kernel) (by decide +kernel)
set_option maxRecDepth 20000 in
theorem gX2_turn_J6_rotateLeft_7cf53 : GoodIn wsX2_turn (va_wsS RX2 134 yJ6_rotateLeft_7cf53 wsJ6_rotateLeft_7cf53) := goodIn_app (goodIn_of _ (by decide +kernel)) ggX2_turn_J6_rotateLeft_7cf53
set_option maxRecDepth 20000 in
theorem ggX2_turn_X2_become : GoodIn wsX2_turn wsX2_become := goodIn_r _ [15, 1, 20, 21, 22, 23, 24, 25, 26] (by decide +kernel) (by decide +kernel)
set_option maxRecDepth 20000 in
theorem gX2_turn_X2_become : GoodIn wsX2_turn (wsV RX2 35 RX2 yX2_become wsX2_become) := goodIn_app (goodIn_of _ (by decide +kernel)) ggX2_turn_X2_become
set_option maxRecDepth 20000 in
theorem ggX2_turn_J13_rotateLeft_b2ac5 : GoodIn wsX2_turn wsJ13_rotateLeft_b2ac5 := goodIn_r _ [19] (by decide +kernel) (by decide +kernel)
set_option maxRecDepth 20000 in
theorem gX2_turn_J13_rotateLeft_b2ac5 : GoodIn wsX2_turn (va_wsS RX2 140 yJ13_rotateLeft_b2ac5 wsJ13_rotateLeft_b2ac5) := goodIn_app (goodIn_of _ (by decide +kernel)) ggX2_turn_J13_rotateLeft_b2ac5
theorem dX2_turn_0 : decode cX2_turn 0 = .ok (.iload_n 1, 1) := by decide +kernel
theorem dX2_turn_1 : decode cX2_turn 1 = .ok (.invokestatic 23, 3) := by decide +kernel
theorem dX2_turn_4 : decode cX2_turn 4 = .ok (.aload_n 0, 1) := by decide +kernel
theorem dX2_turn_5 : decode cX2_turn 5 = .ok (.getfield 9, 3) := by decide +kernel
theorem dX2_turn_8 : decode cX2_turn 8 = .ok (.iload_n 1, 1) := by decide +kernel
theorem dX2_turn_9 : decode cX2_turn 9 = .ok (.laload, 1) := by decide +kernel
theorem dX2_turn_10 : decode cX2_turn 10 = .ok (.lstore 4, 2) := by decide +kernel
theorem dX2_turn_12 : decode cX2_turn 12 = .ok (.iload_n 3, 1) := by decide +kernel
theorem dX2_turn_13 : decode cX2_turn 13 = .ok (.ifCond .eq 17, 3) := by decide +kernel
theorem dX2_turn_16 : decode cX2_turn 16 = .ok (.aload_n 0, 1) := by decide +kernel
theorem dX2_turn_17 : decode cX2_turn 17 = .ok (.iload_n 1, 1) := by decide +kernel
theorem dX2_turn_18 : decode cX2_turn 18 = .ok (.lload 4, 2) := by decide +kernel
theorem dX2_turn_20 : decode cX2_turn 20 = .ok (.l2i, 1) := by decide +kernel
theorem dX2_turn_21 : decode cX2_turn 21 = .ok (.iload_n 2, 1) := by decide +kernel
theorem dX2_turn_22 : decode cX2_turn 22 = .ok (.invokestatic 134, 3) := by decide +kernel
theorem dX2_turn_25 : decode cX2_turn 25 = .ok (.i2l, 1) := by decide +kernel
theorem dX2_turn_26 : decode cX2_turn 26 = .ok (.invokevirtual 35, 3) := by decide +kernel
theorem dX2_turn_29 : decode cX2_turn 29 = .ok (.ireturn, 1) := by decide +kernel
theorem dX2_turn_30 : decode cX2_turn 30 = .ok (.aload_n 0, 1) := by decide +kernel
theorem dX2_turn_31 : decode cX2_turn 31 = .ok (.iload_n 1, 1) := by decide +kernel
theorem dX2_turn_32 : decode cX2_turn 32 = .ok (.lload 4, 2) := by decide +kernel
theorem dX2_turn_34 : decode cX2_turn 34 = .ok (.iload_n 2, 1) := by decide +kernel
theorem dX2_turn_35 : decode cX2_turn 35 = .ok (.invokestatic 140, 3) := by decide +kernel
theorem dX2_turn_38 : decode cX2_turn 38 = .ok (.invokevirtual 35, 3) := by decide +kernel
theorem dX2_turn_41 : decode cX2_turn 41 = .ok (.ireturn, 1) := by decide +kernel
set_option maxRecDepth 20000 in
theorem ggX2_about_X2_checkCell : GoodIn wsX2_about wsX2_checkCell := goodIn_ca (goodIn_r _ [5, 6, 7] (by decide +kernel) (by decide +kernel)) (goodIn_sub (fun _ h => List.mem_cons_of_mem _ (List.mem_append_right _ h)) (by decide +kernel))
set_option maxRecDepth 20000 in
theorem gX2_about_X2_checkCell : GoodIn wsX2_about (va_wsS RX2 23 yX2_checkCell wsX2_checkCell) := goodIn_app (goodIn_of _ (by decide +kernel)) ggX2_about_X2_checkCell
set_option maxRecDepth 20000 in
theorem ggX2_about_J6_reverseBytes_0f7a4 : GoodIn wsX2_about wsJ6_reverseBytes_0f7a4 := goodIn_r _ [11, 12] (by decide +kernel) (by decide +kernel)
set_option maxRecDepth 20000 in
theorem gX2_about_J6_reverseBytes_0f7a4 : GoodIn wsX2_about (va_wsS RX2 143 yJ6_reverseBytes_0f7a4 wsJ6_reverseBytes_0f7a4) := goodIn_app (goodIn_of _ (by decide +kernel)) ggX2_about_J6_reverseBytes_0f7a4
set_option maxRecDepth 20000 in
theorem ggX2_about_J6_reverse_0f7a4 : GoodIn wsX2_about wsJ6_reverse_0f7a4 := goodIn_r _ [15, 16, 17, 18, 19, 9, 10, 11, 12] (by decide +kernel) (by decide +kernel)
set_option maxRecDepth 20000 in
theorem gX2_about_J6_reverse_0f7a4 : GoodIn wsX2_about (va_wsS RX2 146 yJ6_reverse_0f7a4 wsJ6_reverse_0f7a4) := goodIn_app (goodIn_of _ (by decide +kernel)) ggX2_about_J6_reverse_0f7a4
set_option maxRecDepth 20000 in
theorem ggX2_about_X2_become : GoodIn wsX2_about wsX2_become := goodIn_r _ [23, 1, 37, 38, 39, 40, 41, 42, 43] (by decide +kernel) (by decide +kernel)
set_option maxRecDepth 20000 in
theorem gX2_about_X2_become : GoodIn wsX2_about (wsV RX2 35 RX2 yX2_become wsX2_become) := goodIn_app (goodIn_of _ (by decide +kernel)) ggX2_about_X2_become
set_option maxRecDepth 20000 in
theorem ggX2_about_J13_reverseBytes_067f4 : GoodIn wsX2_about wsJ13_reverseBytes_067f4 := goodIn_r _ [27, 28, 29] (by decide +kernel) (by decide +kernel)
set_option maxRecDepth 20000 in
theorem gX2_about_J13_reverseBytes_067f4 : GoodIn wsX2_about (va_wsS RX2 149 yJ13_reverseBytes_067f4 wsJ13_reverseBytes_067f4) := goodIn_app (goodIn_of _ (by decide +kernel)) ggX2_about_J13_reverseBytes_067f4
set_option maxRecDepth 20000 in
theorem ggX2_about_J13_reverse_067f4 : GoodIn wsX2_about wsJ13_reverse_067f4 := goodIn_r _ [32, 33, 34, 35, 36, 25, 26, 27, 28, 29] (by decide +kernel) (by decide +kernel)
set_option maxRecDepth 20000 in
theorem gX2_about_J13_reverse_067f4 : GoodIn wsX2_about (va_wsS RX2 152 yJ13_reverse_067f4 wsJ13_reverse_067f4) := goodIn_app (goodIn_of _ (by decide +kernel)) ggX2_about_J13_reverse_067f4
theorem dX2_about_0 : decode cX2_about 0 = .ok (.iload_n 1, 1) := by decide +kernel
theorem dX2_about_1 : decode cX2_about 1 = .ok (.invokestatic 23, 3) := by decide +kernel
theorem dX2_about_4 : decode cX2_about 4 = .ok (.aload_n 0, 1) := by decide +kernel
theorem dX2_about_5 : decode cX2_about 5 = .ok (.getfield 9, 3) := by decide +kernel
theorem dX2_about_8 : decode cX2_about 8 = .ok (.iload_n 1, 1) := by decide +kernel
theorem dX2_about_9 : decode cX2_about 9 = .ok (.laload, 1) := by decide +kernel
theorem dX2_about_10 : decode cX2_about 10 = .ok (.lstore 4, 2) := by decide +kernel
theorem dX2_about_12 : decode cX2_about 12 = .ok (.iload_n 3, 1) := by decide +kernel
theorem dX2_about_13 : decode cX2_about 13 = .ok (.ifCond .eq 33, 3) := by decide +kernel
theorem dX2_about_16 : decode cX2_about 16 = .ok (.lload 4, 2) := by decide +kernel
theorem dX2_about_18 : decode cX2_about 18 = .ok (.l2i, 1) := by decide +kernel
theorem dX2_about_19 : decode cX2_about 19 = .ok (.istore 6, 2) := by decide +kernel
theorem dX2_about_21 : decode cX2_about 21 = .ok (.aload_n 0, 1) := by decide +kernel
theorem dX2_about_22 : decode cX2_about 22 = .ok (.iload_n 1, 1) := by decide +kernel
theorem dX2_about_23 : decode cX2_about 23 = .ok (.iload_n 2, 1) := by decide +kernel
theorem dX2_about_24 : decode cX2_about 24 = .ok (.ifCond .eq 12, 3) := by decide +kernel
theorem dX2_about_27 : decode cX2_about 27 = .ok (.iload 6, 2) := by decide +kernel
theorem dX2_about_29 : decode cX2_about 29 = .ok (.invokestatic 143, 3) := by decide +kernel
theorem dX2_about_32 : decode cX2_about 32 = .ok (.i2l, 1) := by decide +kernel
theorem dX2_about_33 : decode cX2_about 33 = .ok (.goto 9, 3) := by decide +kernel
theorem dX2_about_36 : decode cX2_about 36 = .ok (.iload 6, 2) := by decide +kernel
theorem dX2_about_38 : decode cX2_about 38 = .ok (.invokestatic 146, 3) := by decide +kernel
theorem dX2_about_41 : decode cX2_about 41 = .ok (.i2l, 1) := by decide +kernel
theorem dX2_about_42 : decode cX2_about 42 = .ok (.invokevirtual 35, 3) := by decide +kernel
theorem dX2_about_45 : decode cX2_about 45 = .ok (.ireturn, 1) := by decide +kernel
theorem dX2_about_46 : decode cX2_about 46 = .ok (.aload_n 0, 1) := by decide +kernel
theorem dX2_about_47 : decode cX2_about 47 = .ok (.iload_n 1, 1) := by decide +kernel
theorem dX2_about_48 : decode cX2_about 48 = .ok (.iload_n 2, 1) := by decide +kernel
theorem dX2_about_49 : decode cX2_about 49 = .ok (.ifCond .eq 11, 3) := by decide +kernel
theorem dX2_about_52 : decode cX2_about 52 = .ok (.lload 4, 2) := by decide +kernel
theorem dX2_about_54 : decode cX2_about 54 = .ok (.invokestatic 149, 3) := by decide +kernel
theorem dX2_about_57 : decode cX2_about 57 = .ok (.goto 8, 3) := by decide +kernel
theorem dX2_about_60 : decode cX2_about 60 = .ok (.lload 4, 2) := by decide +kernel
theorem dX2_about_62 : decode cX2_about 62 = .ok (.invokestatic 152, 3) := by decide +kernel
theorem dX2_about_65 : decode cX2_about 65 = .ok (.invokevirtual 35, 3) := by decide +kernel
theorem dX2_about_68 : decode cX2_about 68 = .ok (.ireturn, 1) := by decide +kernel
set_option maxRecDepth 20000 in
theorem ggX2_pick_X2_checkCell : GoodIn wsX2_pick wsX2_checkCell := goodIn_ca (goodIn_r _ [4, 5, 6] (by decide +kernel) (by decide +kernel)) (goodIn_sub (fun _ h => List.mem_cons_of_mem _ (List.mem_append_right _ h)) (by decide +kernel))
set_option maxRecDepth 20000 in
theorem gX2_pick_X2_checkCell : GoodIn wsX2_pick (va_wsS RX2 23 yX2_checkCell wsX2_checkCell) := goodIn_app (goodIn_of _ (by decide +kernel)) ggX2_pick_X2_checkCell
set_option maxRecDepth 20000 in
theorem ggX2_pick_X2_unsignedOf : GoodIn wsX2_pick wsX2_unsignedOf := goodIn_r _ [10, 11, 12, 35, 36, 37, 38, 39, 40, 41] (by decide +kernel) (by decide +kernel)
set_option maxRecDepth 20000 in
theorem gX2_pick_X2_unsignedOf : GoodIn wsX2_pick (wsV RX2 112 RX2 yX2_unsignedOf wsX2_unsignedOf) := goodIn_app (goodIn_of _ (by decide +kernel)) ggX2_pick_X2_unsignedOf
set_option maxRecDepth 20000 in
theorem ggX2_pick_X2_become : GoodIn wsX2_pick wsX2_become := goodIn_r _ [16, 11, 35, 36, 37, 38, 39, 40, 41] (by decide +kernel) (by decide +kernel)
set_option maxRecDepth 20000 in
theorem gX2_pick_X2_become : GoodIn wsX2_pick (wsV RX2 35 RX2 yX2_become wsX2_become) := goodIn_app (goodIn_of _ (by decide +kernel)) ggX2_pick_X2_become
set_option maxRecDepth 20000 in
theorem ggX2_pick_J13_numberOfLeadingZeros_95d88 : GoodIn wsX2_pick wsJ13_numberOfLeadingZeros_95d88 := goodIn_r _ [20, 21, 22, 23, 24, 25] (by decide +kernel) (by decide +kernel)
set_option maxRecDepth 20000 in
theorem gX2_pick_J13_numberOfLeadingZeros_95d88 : GoodIn wsX2_pick (va_wsS RX2 154 yJ13_numberOfLeadingZeros_95d88 wsJ13_numberOfLeadingZeros_95d88) := goodIn_app (goodIn_of _ (by decide +kernel)) ggX2_pick_J13_numberOfLeadingZeros_95d88
set_option maxRecDepth 20000 in
theorem ggX2_pick_J13_numberOfTrailingZeros_95d88 : GoodIn wsX2_pick wsJ13_numberOfTrailingZeros_95d88 := goodIn_r _ [28, 29, 30, 23, 31, 25] (by decide +kernel) (by decide +kernel)
set_option maxRecDepth 20000 in
theorem gX2_pick_J13_numberOfTrailingZeros_95d88 : GoodIn wsX2_pick (va_wsS RX2 157 yJ13_numberOfTrailingZeros_95d88 wsJ13_numberOfTrailingZeros_95d88) := goodIn_app (goodIn_of _ (by decide +kernel)) ggX2_pick_J13_numberOfTrailingZeros_95d88
set_option maxRecDepth 20000 in
theorem ggX2_pick_X2_setting : GoodIn wsX2_pick wsX2_setting := goodIn_r _ [34] (by decide +kernel) (by decide +kernel)
set_option maxRecDepth 20000 in
theorem gX2_pick_X2_setting : GoodIn wsX2_pick (va_wsS RX2 98 yX2_setting wsX2_setting) := goodIn_app (goodIn_of _ (by decide +kernel)) ggX2_pick_X2_setting
theorem dX2_pick_0 : decode cX2_pick 0 = .ok (.iload_n 1, 1) := by decide +kernel
theorem dX2_pick_1 : decode cX2_pick 1 = .ok (.invokestatic 23, 3) := by decide +kernel
theorem dX2_pick_4 : decode cX2_pick 4 = .ok (.aload_n 0, 1) := by decide +kernel
theorem dX2_pick_5 : decode cX2_pick 5 = .ok (.iload_n 1, 1) := by decide +kernel
theorem dX2_pick_6 : decode cX2_pick 6 = .ok (.iload_n 3, 1) := by decide +kernel
theorem dX2_pick_7 : decode cX2_pick 7 = .ok (.invokevirtual 112, 3) := by decide +kernel
theorem dX2_pick_10 : decode cX2_pick 10 = .ok (.lstore 4, 2) := by decide +kernel
theorem dX2_pick_12 : decode cX2_pick 12 = .ok (.lload 4, 2) := by decide +kernel
theorem dX2_pick_14 : decode cX2_pick 14 = .ok (.lconst 0, 1) := by decide +kernel
theorem dX2_pick_15 : decode cX2_pick 15 = .ok (.lcmp, 1) := by decide +kernel
theorem dX2_pick_16 : decode cX2_pick 16 = .ok (.ifCond .ne 12, 3) := by decide +kernel
theorem dX2_pick_19 : decode cX2_pick 19 = .ok (.aload_n 0, 1) := by decide +kernel
theorem dX2_pick_20 : decode cX2_pick 20 = .ok (.iload_n 1, 1) := by decide +kernel
theorem dX2_pick_21 : decode cX2_pick 21 = .ok (.lconst 0, 1) := by decide +kernel
theorem dX2_pick_22 : decode cX2_pick 22 = .ok (.invokevirtual 35, 3) := by decide +kernel
theorem dX2_pick_25 : decode cX2_pick 25 = .ok (.pop, 1) := by decide +kernel
theorem dX2_pick_26 : decode cX2_pick 26 = .ok (.iconst (-1), 1) := by decide +kernel
theorem dX2_pick_27 : decode cX2_pick 27 = .ok (.ireturn, 1) := by decide +kernel
theorem dX2_pick_28 : decode cX2_pick 28 = .ok (.iload_n 2, 1) := by decide +kernel
theorem dX2_pick_29 : decode cX2_pick 29 = .ok (.ifCond .eq 14, 3) := by decide +kernel
theorem dX2_pick_32 : decode cX2_pick 32 = .ok (.bipush 63, 2) := by decide +kernel
theorem dX2_pick_34 : decode cX2_pick 34 = .ok (.lload 4, 2) := by decide +kernel
theorem dX2_pick_36 : decode cX2_pick 36 = .ok (.invokestatic 154, 3) := by decide +kernel
theorem dX2_pick_39 : decode cX2_pick 39 = .ok (.isub, 1) := by decide +kernel
theorem dX2_pick_40 : decode cX2_pick 40 = .ok (.goto 8, 3) := by decide +kernel
theorem dX2_pick_43 : decode cX2_pick 43 = .ok (.lload 4, 2) := by decide +kernel
theorem dX2_pick_45 : decode cX2_pick 45 = .ok (.invokestatic 157, 3) := by decide +kernel
theorem dX2_pick_48 : decode cX2_pick 48 = .ok (.istore 6, 2) := by decide +kernel
theorem dX2_pick_50 : decode cX2_pick 50 = .ok (.aload_n 0, 1) := by decide +kernel
theorem dX2_pick_51 : decode cX2_pick 51 = .ok (.iload_n 1, 1) := by decide +kernel
theorem dX2_pick_52 : decode cX2_pick 52 = .ok (.lconst 1, 1) := by decide +kernel
theorem dX2_pick_53 : decode cX2_pick 53 = .ok (.iload 6, 2) := by decide +kernel
theorem dX2_pick_55 : decode cX2_pick 55 = .ok (.lshl, 1) := by decide +kernel
theorem dX2_pick_56 : decode cX2_pick 56 = .ok (.iload_n 3, 1) := by decide +kernel
theorem dX2_pick_57 : decode cX2_pick 57 = .ok (.invokestatic 98, 3) := by decide +kernel
theorem dX2_pick_60 : decode cX2_pick 60 = .ok (.invokevirtual 35, 3) := by decide +kernel
theorem dX2_pick_63 : decode cX2_pick 63 = .ok (.pop, 1) := by decide +kernel
theorem dX2_pick_64 : decode cX2_pick 64 = .ok (.iload 6, 2) := by decide +kernel
theorem dX2_pick_66 : decode cX2_pick 66 = .ok (.ireturn, 1) := by decide +kernel
set_option maxRecDepth 20000 in
theorem ggX2_join_X2_checkCell : GoodIn wsX2_join wsX2_checkCell := goodIn_ca (goodIn_r _ [11, 12, 13] (by decide +kernel) (by decide +kernel)) (goodIn_sub (fun _ h => List.mem_cons_of_mem _ (List.mem_append_left _ (List.mem_append_right _ h))) (by decide +kernel))
set_option maxRecDepth 20000 in
theorem gX2_join_X2_checkCell : GoodIn wsX2_join (va_wsS RX2 23 yX2_checkCell wsX2_checkCell) := goodIn_app (goodIn_of _ (by decide +kernel)) ggX2_join_X2_checkCell
set_option maxRecDepth 20000 in
theorem ggX2_join_X2_checkWhat : GoodIn wsX2_join wsX2_checkWhat := goodIn_ca (goodIn_r _ [16, 17, 18] (by decide +kernel) (by decide +kernel)) (goodIn_sub (fun _ h => List.mem_cons_of_mem _ (List.mem_append_right _ h)) (by decide +kernel))
set_option maxRecDepth 20000 in
theorem gX2_join_X2_checkWhat : GoodIn wsX2_join (va_wsS RX2 109 yX2_checkWhat wsX2_checkWhat) := goodIn_app (goodIn_of _ (by decide +kernel)) ggX2_join_X2_checkWhat
set_option maxRecDepth 20000 in
theorem ggX2_join_X2_signedOf : GoodIn wsX2_join wsX2_signedOf := goodIn_r _ [22, 23, 24, 25, 10, 26, 31, 32, 33, 34, 35, 36, 37] (by decide +kernel) (by decide +kernel)
set_option maxRecDepth 20000 in
theorem gX2_join_X2_signedOf : GoodIn wsX2_join (wsV RX2 160 RX2 yX2_signedOf wsX2_signedOf) := goodIn_app (goodIn_of _ (by decide +kernel)) ggX2_join_X2_signedOf
set_option maxRecDepth 20000 in
theorem ggX2_join_X2_setting : GoodIn wsX2_join wsX2_setting := goodIn_r _ [26] (by decide +kernel) (by decide +kernel)
set_option maxRecDepth 20000 in
theorem gX2_join_X2_setting : GoodIn wsX2_join (va_wsS RX2 98 yX2_setting wsX2_setting) := goodIn_app (goodIn_of _ (by decide +kernel)) ggX2_join_X2_setting
set_option maxRecDepth 20000 in
theorem ggX2_join_X2_become : GoodIn wsX2_join wsX2_become := goodIn_r _ [30, 23, 31, 32, 33, 34, 35, 36, 37] (by decide +kernel) (by decide +kernel)
set_option maxRecDepth 20000 in
theorem gX2_join_X2_become : GoodIn wsX2_join (wsV RX2 35 RX2 yX2_become wsX2_become) := goodIn_app (goodIn_of _ (by decide +kernel)) ggX2_join_X2_become
theorem dX2_join_0 : decode cX2_join 0 = .ok (.iload_n 1, 1) := by decide +kernel
theorem dX2_join_1 : decode cX2_join 1 = .ok (.invokestatic 23, 3) := by decide +kernel
theorem dX2_join_4 : decode cX2_join 4 = .ok (.iload_n 2, 1) := by decide +kernel
theorem dX2_join_5 : decode cX2_join 5 = .ok (.invokestatic 23, 3) := by decide +kernel
theorem dX2_join_8 : decode cX2_join 8 = .ok (.iload_n 3, 1) := by decide +kernel
theorem dX2_join_9 : decode cX2_join 9 = .ok (.iconst 2, 1) := by decide +kernel
theorem dX2_join_10 : decode cX2_join 10 = .ok (.invokestatic 109, 3) := by decide +kernel
theorem dX2_join_13 : decode cX2_join 13 = .ok (.aload_n 0, 1) := by decide +kernel
theorem dX2_join_14 : decode cX2_join 14 = .ok (.iload_n 1, 1) := by decide +kernel
theorem dX2_join_15 : decode cX2_join 15 = .ok (.iload 4, 2) := by decide +kernel
theorem dX2_join_17 : decode cX2_join 17 = .ok (.invokevirtual 160, 3) := by decide +kernel
theorem dX2_join_20 : decode cX2_join 20 = .ok (.lstore 5, 2) := by decide +kernel
theorem dX2_join_22 : decode cX2_join 22 = .ok (.aload_n 0, 1) := by decide +kernel
theorem dX2_join_23 : decode cX2_join 23 = .ok (.iload_n 2, 1) := by decide +kernel
theorem dX2_join_24 : decode cX2_join 24 = .ok (.iload 4, 2) := by decide +kernel
theorem dX2_join_26 : decode cX2_join 26 = .ok (.invokevirtual 160, 3) := by decide +kernel
theorem dX2_join_29 : decode cX2_join 29 = .ok (.lstore 7, 2) := by decide +kernel
theorem dX2_join_31 : decode cX2_join 31 = .ok (.iload_n 3, 1) := by decide +kernel
theorem dX2_join_32 : decode cX2_join 32 = .ok (.ifCond .ne 11, 3) := by decide +kernel
theorem dX2_join_35 : decode cX2_join 35 = .ok (.lload 5, 2) := by decide +kernel
theorem dX2_join_37 : decode cX2_join 37 = .ok (.lload 7, 2) := by decide +kernel
theorem dX2_join_39 : decode cX2_join 39 = .ok (.ladd, 1) := by decide +kernel
theorem dX2_join_40 : decode cX2_join 40 = .ok (.goto 25, 3) := by decide +kernel
theorem dX2_join_43 : decode cX2_join 43 = .ok (.iload_n 3, 1) := by decide +kernel
theorem dX2_join_44 : decode cX2_join 44 = .ok (.iconst 1, 1) := by decide +kernel
theorem dX2_join_45 : decode cX2_join 45 = .ok (.if_icmp .ne 13, 3) := by decide +kernel
theorem dX2_join_48 : decode cX2_join 48 = .ok (.lload 5, 2) := by decide +kernel
theorem dX2_join_50 : decode cX2_join 50 = .ok (.lload 7, 2) := by decide +kernel
theorem dX2_join_52 : decode cX2_join 52 = .ok (.invokestatic 163, 3) := by decide +kernel
theorem dX2_join_55 : decode cX2_join 55 = .ok (.goto 10, 3) := by decide +kernel
theorem dX2_join_58 : decode cX2_join 58 = .ok (.lload 5, 2) := by decide +kernel
theorem dX2_join_60 : decode cX2_join 60 = .ok (.lload 7, 2) := by decide +kernel
theorem dX2_join_62 : decode cX2_join 62 = .ok (.invokestatic 168, 3) := by decide +kernel
theorem dX2_join_65 : decode cX2_join 65 = .ok (.lstore 9, 2) := by decide +kernel
theorem dX2_join_67 : decode cX2_join 67 = .ok (.aload_n 0, 1) := by decide +kernel
theorem dX2_join_68 : decode cX2_join 68 = .ok (.iload_n 1, 1) := by decide +kernel
theorem dX2_join_69 : decode cX2_join 69 = .ok (.lload 9, 2) := by decide +kernel
theorem dX2_join_71 : decode cX2_join 71 = .ok (.iload 4, 2) := by decide +kernel
theorem dX2_join_73 : decode cX2_join 73 = .ok (.invokestatic 98, 3) := by decide +kernel
theorem dX2_join_76 : decode cX2_join 76 = .ok (.invokevirtual 35, 3) := by decide +kernel
theorem dX2_join_79 : decode cX2_join 79 = .ok (.ireturn, 1) := by decide +kernel
theorem dX2_knock_0 : decode cX2_knock 0 = .ok (.aload_n 0, 1) := by decide +kernel
theorem dX2_knock_1 : decode cX2_knock 1 = .ok (.dup, 1) := by decide +kernel
theorem dX2_knock_2 : decode cX2_knock 2 = .ok (.getfield 171, 3) := by decide +kernel
theorem dX2_knock_5 : decode cX2_knock 5 = .ok (.iconst 1, 1) := by decide +kernel
theorem dX2_knock_6 : decode cX2_knock 6 = .ok (.iadd, 1) := by decide +kernel
theorem dX2_knock_7 : decode cX2_knock 7 = .ok (.putfield 171, 3) := by decide +kernel
theorem dX2_knock_10 : decode cX2_knock 10 = .ok (.aload_n 0, 1) := by decide +kernel
theorem dX2_knock_11 : decode cX2_knock 11 = .ok (.getfield 171, 3) := by decide +kernel
theorem dX2_knock_14 : decode cX2_knock 14 = .ok (.ireturn, 1) := by decide +kernel
set_option maxRecDepth 20000 in
theorem ggX2_high_X2_checkCell : GoodIn wsX2_high wsX2_checkCell := goodIn_ca (goodIn_r _ [5, 6, 7] (by decide +kernel) (by decide +kernel)) (goodIn_sub (fun _ h => List.mem_cons_of_mem _ (List.mem_append_right _ h)) (by decide +kernel))
set_option maxRecDepth 20000 in
theorem gX2_high_X2_checkCell : GoodIn wsX2_high (va_wsS RX2 23 yX2_checkCell wsX2_checkCell) := goodIn_app (goodIn_of _ (by decide +kernel)) ggX2_high_X2_checkCell
set_option maxRecDepth 20000 in
theorem ggX2_high_X2_highOf : GoodIn wsX2_high wsX2_highOf := goodIn_r _ [10] (by decide +kernel) (by decide +kernel)
set_option maxRecDepth 20000 in
theorem gX2_high_X2_highOf : GoodIn wsX2_high (va_wsS RX2 174 yX2_highOf wsX2_highOf) := goodIn_app (goodIn_of _ (by decide +kernel)) ggX2_high_X2_highOf
theorem dX2_high_0 : decode cX2_high 0 = .ok (.iload_n 1, 1) := by decide +kernel
theorem dX2_high_1 : decode cX2_high 1 = .ok (.invokestatic 23, 3) := by decide +kernel
theorem dX2_high_4 : decode cX2_high 4 = .ok (.aload_n 0, 1) := by decide +kernel
theorem dX2_high_5 : decode cX2_high 5 = .ok (.getfield 9, 3) := by decide +kernel
theorem dX2_high_8 : decode cX2_high 8 = .ok (.iload_n 1, 1) := by decide +kernel
theorem dX2_high_9 : decode cX2_high 9 = .ok (.laload, 1) := by decide +kernel
theorem dX2_high_10 : decode cX2_high 10 = .ok (.invokestatic 174, 3) := by decide +kernel
theorem dX2_high_13 : decode cX2_high 13 = .ok (.ireturn, 1) := by decide +kernel
set_option maxRecDepth 20000 in
theorem ggX2_low_X2_checkCell : GoodIn wsX2_low wsX2_checkCell := goodIn_ca (goodIn_r _ [5, 6, 7] (by decide +kernel) (by decide +kernel)) (goodIn_sub (fun _ h => List.mem_cons_of_mem _ (List.mem_append_right _ h)) (by decide +kernel))
set_option maxRecDepth 20000 in
theorem gX2_low_X2_checkCell : GoodIn wsX2_low (va_wsS RX2 23 yX2_checkCell wsX2_checkCell) := goodIn_app (goodIn_of _ (by decide +kernel)) ggX2_low_X2_checkCell
theorem dX2_low_0 : decode cX2_low 0 = .ok (.iload_n 1, 1) := by decide +kernel
theorem dX2_low_1 : decode cX2_low 1 = .ok (.invokestatic 23, 3) := by decide +kernel
theorem dX2_low_4 : decode cX2_low 4 = .ok (.aload_n 0, 1) := by decide +kernel
theorem dX2_low_5 : decode cX2_low 5 = .ok (.getfield 9, 3) := by decide +kernel
theorem dX2_low_8 : decode cX2_low 8 = .ok (.iload_n 1, 1) := by decide +kernel
theorem dX2_low_9 : decode cX2_low 9 = .ok (.laload, 1) := by decide +kernel
theorem dX2_low_10 : decode cX2_low 10 = .ok (.l2i, 1) := by decide +kernel
theorem dX2_low_11 : decode cX2_low 11 = .ok (.ireturn, 1) := by decide +kernel
set_option maxRecDepth 20000 in
theorem ggX2_count_X2_checkCell : GoodIn wsX2_count wsX2_checkCell := goodIn_ca (goodIn_r _ [5, 6, 7] (by decide +kernel) (by decide +kernel)) (goodIn_sub (fun _ h => List.mem_cons_of_mem _ (List.mem_append_left _ (List.mem_append_right _ h))) (by decide +kernel))
set_option maxRecDepth 20000 in
theorem gX2_count_X2_checkCell : GoodIn wsX2_count (va_wsS RX2 23 yX2_checkCell wsX2_checkCell) := goodIn_app (goodIn_of _ (by decide +kernel)) ggX2_count_X2_checkCell
set_option maxRecDepth 20000 in
theorem ggX2_count_X2_checkWhat : GoodIn wsX2_count wsX2_checkWhat := goodIn_ca (goodIn_r _ [10, 11, 12] (by decide +kernel) (by decide +kernel)) (goodIn_sub (fun _ h => List.mem_cons_of_mem _ (List.mem_append_right _ h)) (by decide +kernel))
set_option maxRecDepth 20000 in
theorem gX2_count_X2_checkWhat : GoodIn wsX2_count (va_wsS RX2 109 yX2_checkWhat wsX2_checkWhat) := goodIn_app (goodIn_of _ (by decide +kernel)) ggX2_count_X2_checkWhat
set_option maxRecDepth 20000 in
theorem ggX2_count_X2_countOfInt : GoodIn wsX2_count wsX2_countOfInt := goodIn_r _ [15, 16, 17, 18, 19, 20, 21, 22, 23, 24, 25, 26, 27, 28, 29, 30, 31, 32] (by decide +kernel) (by decide +kernel)
set_option maxRecDepth 20000 in
theorem gX2_count_X2_countOfInt : GoodIn wsX2_count (va_wsS RX2 177 yX2_countOfInt wsX2_countOfInt) := goodIn_app (goodIn_of _ (by decide +kernel)) ggX2_count_X2_countOfInt
set_option maxRecDepth 20000 in
theorem ggX2_count_X2_countOfLong : GoodIn wsX2_count wsX2_countOfLong := goodIn_r _ [35, 36, 37, 38, 39, 40, 41, 42, 43, 44, 45, 46, 24, 18, 25, 26, 47, 48, 49, 50, 28, 29, 51, 52, 53] (by decide +kernel) (by decide +kernel)
set_option maxRecDepth 20000 in
theorem gX2_count_X2_countOfLong : GoodIn wsX2_count (va_wsS RX2 180 yX2_countOfLong wsX2_countOfLong) := goodIn_app (goodIn_of _ (by decide +kernel)) ggX2_count_X2_countOfLong
theorem dX2_count_0 : decode cX2_count 0 = .ok (.iload_n 1, 1) := by decide +kernel
theorem dX2_count_1 : decode cX2_count 1 = .ok (.invokestatic 23, 3) := by decide +kernel
theorem dX2_count_4 : decode cX2_count 4 = .ok (.iload_n 2, 1) := by decide +kernel
theorem dX2_count_5 : decode cX2_count 5 = .ok (.iconst 3, 1) := by decide +kernel
theorem dX2_count_6 : decode cX2_count 6 = .ok (.invokestatic 109, 3) := by decide +kernel
theorem dX2_count_9 : decode cX2_count 9 = .ok (.iload_n 3, 1) := by decide +kernel
theorem dX2_count_10 : decode cX2_count 10 = .ok (.ifCond .eq 17, 3) := by decide +kernel
theorem dX2_count_13 : decode cX2_count 13 = .ok (.aload_n 0, 1) := by decide +kernel
theorem dX2_count_14 : decode cX2_count 14 = .ok (.getfield 9, 3) := by decide +kernel
theorem dX2_count_17 : decode cX2_count 17 = .ok (.iload_n 1, 1) := by decide +kernel
theorem dX2_count_18 : decode cX2_count 18 = .ok (.laload, 1) := by decide +kernel
theorem dX2_count_19 : decode cX2_count 19 = .ok (.l2i, 1) := by decide +kernel
theorem dX2_count_20 : decode cX2_count 20 = .ok (.iload_n 2, 1) := by decide +kernel
theorem dX2_count_21 : decode cX2_count 21 = .ok (.invokestatic 177, 3) := by decide +kernel
theorem dX2_count_24 : decode cX2_count 24 = .ok (.goto 13, 3) := by decide +kernel
theorem dX2_count_27 : decode cX2_count 27 = .ok (.aload_n 0, 1) := by decide +kernel
theorem dX2_count_28 : decode cX2_count 28 = .ok (.getfield 9, 3) := by decide +kernel
theorem dX2_count_31 : decode cX2_count 31 = .ok (.iload_n 1, 1) := by decide +kernel
theorem dX2_count_32 : decode cX2_count 32 = .ok (.laload, 1) := by decide +kernel
theorem dX2_count_33 : decode cX2_count 33 = .ok (.iload_n 2, 1) := by decide +kernel
theorem dX2_count_34 : decode cX2_count 34 = .ok (.invokestatic 180, 3) := by decide +kernel
theorem dX2_count_37 : decode cX2_count 37 = .ok (.ireturn, 1) := by decide +kernel
set_option maxRecDepth 20000 in
theorem ggX2_compare_X2_checkCell : GoodIn wsX2_compare wsX2_checkCell := goodIn_ca (goodIn_r _ [4, 5, 6] (by decide +kernel) (by decide +kernel)) (goodIn_sub (fun _ h => List.mem_cons_of_mem _ (List.mem_append_right _ h)) (by decide +kernel))
set_option maxRecDepth 20000 in
theorem gX2_compare_X2_checkCell : GoodIn wsX2_compare (va_wsS RX2 23 yX2_checkCell wsX2_checkCell) := goodIn_app (goodIn_of _ (by decide +kernel)) ggX2_compare_X2_checkCell
set_option maxRecDepth 20000 in
theorem ggX2_compare_X2_unsignedOf : GoodIn wsX2_compare wsX2_unsignedOf := goodIn_r _ [10, 11, 12, 25, 26, 27, 28, 29, 30, 31] (by decide +kernel) (by decide +kernel)
set_option maxRecDepth 20000 in
theorem gX2_compare_X2_unsignedOf : GoodIn wsX2_compare (wsV RX2 112 RX2 yX2_unsignedOf wsX2_unsignedOf) := goodIn_app (goodIn_of _ (by decide +kernel)) ggX2_compare_X2_unsignedOf
set_option maxRecDepth 20000 in
theorem ggX2_compare_X2_signedOf : GoodIn wsX2_compare wsX2_signedOf := goodIn_r _ [16, 11, 17, 18, 3, 19, 25, 26, 27, 28, 29, 30, 31] (by decide +kernel) (by decide +kernel)
set_option maxRecDepth 20000 in
theorem gX2_compare_X2_signedOf : GoodIn wsX2_compare (wsV RX2 160 RX2 yX2_signedOf wsX2_signedOf) := goodIn_app (goodIn_of _ (by decide +kernel)) ggX2_compare_X2_signedOf
set_option maxRecDepth 20000 in
theorem ggX2_compare_X1_isLess : GoodIn wsX2_compare wsX1_isLess := goodIn_r _ [23, 24] (by decide +kernel) (by decide +kernel)
set_option maxRecDepth 20000 in
theorem gX2_compare_X1_isLess : GoodIn wsX2_compare (va_wsS RX2 184 yX1_isLess wsX1_isLess) := goodIn_app (goodIn_of _ (by decide +kernel)) ggX2_compare_X1_isLess
theorem dX2_compare_0 : decode cX2_compare 0 = .ok (.iload_n 1, 1) := by decide +kernel
theorem dX2_compare_1 : decode cX2_compare 1 = .ok (.invokestatic 23, 3) := by decide +kernel
theorem dX2_compare_4 : decode cX2_compare 4 = .ok (.iload_n 2, 1) := by decide +kernel
theorem dX2_compare_5 : decode cX2_compare 5 = .ok (.invokestatic 23, 3) := by decide +kernel
theorem dX2_compare_8 : decode cX2_compare 8 = .ok (.iload_n 3, 1) := by decide +kernel
theorem dX2_compare_9 : decode cX2_compare 9 = .ok (.ifCond .eq 13, 3) := by decide +kernel
theorem dX2_compare_12 : decode cX2_compare 12 = .ok (.aload_n 0, 1) := by decide +kernel
theorem dX2_compare_13 : decode cX2_compare 13 = .ok (.iload_n 1, 1) := by decide +kernel
theorem dX2_compare_14 : decode cX2_compare 14 = .ok (.iload 4, 2) := by decide +kernel
theorem dX2_compare_16 : decode cX2_compare 16 = .ok (.invokevirtual 112, 3) := by decide +kernel
theorem dX2_compare_19 : decode cX2_compare 19 = .ok (.goto 10, 3) := by decide +kernel
theorem dX2_compare_22 : decode cX2_compare 22 = .ok (.aload_n 0, 1) := by decide +kernel
theorem dX2_compare_23 : decode cX2_compare 23 = .ok (.iload_n 1, 1) := by decide +kernel
theorem dX2_compare_24 : decode cX2_compare 24 = .ok (.iload 4, 2) := by decide +kernel
theorem dX2_compare_26 : decode cX2_compare 26 = .ok (.invokevirtual 160, 3) := by decide +kernel
theorem dX2_compare_29 : decode cX2_compare 29 = .ok (.lstore 5, 2) := by decide +kernel
theorem dX2_compare_31 : decode cX2_compare 31 = .ok (.iload_n 3, 1) := by decide +kernel
theorem dX2_compare_32 : decode cX2_compare 32 = .ok (.ifCond .eq 13, 3) := by decide +kernel
theorem dX2_compare_35 : decode cX2_compare 35 = .ok (.aload_n 0, 1) := by decide +kernel
theorem dX2_compare_36 : decode cX2_compare 36 = .ok (.iload_n 2, 1) := by decide +kernel
theorem dX2_compare_37 : decode cX2_compare 37 = .ok (.iload 4, 2) := by decide +kernel
theorem dX2_compare_39 : decode cX2_compare 39 = .ok (.invokevirtual 112, 3) := by decide +kernel
theorem dX2_compare_42 : decode cX2_compare 42 = .ok (.goto 10, 3) := by decide +kernel
theorem dX2_compare_45 : decode cX2_compare 45 = .ok (.aload_n 0, 1) := by decide +kernel
theorem dX2_compare_46 : decode cX2_compare 46 = .ok (.iload_n 2, 1) := by decide +kernel
theorem dX2_compare_47 : decode cX2_compare 47 = .ok (.iload 4, 2) := by decide +kernel
theorem dX2_compare_49 : decode cX2_compare 49 = .ok (.invokevirtual 160, 3) := by decide +kernel
theorem dX2_compare_52 : decode cX2_compare 52 = .ok (.lstore 7, 2) := by decide +kernel
theorem dX2_compare_54 : decode cX2_compare 54 = .ok (.lload 5, 2) := by decide +kernel
theorem dX2_compare_56 : decode cX2_compare 56 = .ok (.lload 7, 2) := by decide +kernel
theorem dX2_compare_58 : decode cX2_compare 58 = .ok (.lcmp, 1) := by decide +kernel
theorem dX2_compare_59 : decode cX2_compare 59 = .ok (.ifCond .ne 5, 3) := by decide +kernel
theorem dX2_compare_62 : decode cX2_compare 62 = .ok (.iconst 0, 1) := by decide +kernel
theorem dX2_compare_63 : decode cX2_compare 63 = .ok (.ireturn, 1) := by decide +kernel
theorem dX2_compare_64 : decode cX2_compare 64 = .ok (.iload_n 3, 1) := by decide +kernel
theorem dX2_compare_65 : decode cX2_compare 65 = .ok (.ifCond .eq 13, 3) := by decide +kernel
theorem dX2_compare_68 : decode cX2_compare 68 = .ok (.lload 5, 2) := by decide +kernel
theorem dX2_compare_70 : decode cX2_compare 70 = .ok (.lload 7, 2) := by decide +kernel
theorem dX2_compare_72 : decode cX2_compare 72 = .ok (.invokestatic 184, 3) := by decide +kernel
theorem dX2_compare_75 : decode cX2_compare 75 = .ok (.goto 16, 3) := by decide +kernel
theorem dX2_compare_78 : decode cX2_compare 78 = .ok (.lload 5, 2) := by decide +kernel
theorem dX2_compare_80 : decode cX2_compare 80 = .ok (.lload 7, 2) := by decide +kernel
theorem dX2_compare_82 : decode cX2_compare 82 = .ok (.lcmp, 1) := by decide +kernel
theorem dX2_compare_83 : decode cX2_compare 83 = .ok (.ifCond .ge 7, 3) := by decide +kernel
theorem dX2_compare_86 : decode cX2_compare 86 = .ok (.iconst 1, 1) := by decide +kernel
theorem dX2_compare_87 : decode cX2_compare 87 = .ok (.goto 4, 3) := by decide +kernel
theorem dX2_compare_90 : decode cX2_compare 90 = .ok (.iconst 0, 1) := by decide +kernel
theorem dX2_compare_91 : decode cX2_compare 91 = .ok (.istore 9, 2) := by decide +kernel
theorem dX2_compare_93 : decode cX2_compare 93 = .ok (.iload 9, 2) := by decide +kernel
theorem dX2_compare_95 : decode cX2_compare 95 = .ok (.ifCond .eq 7, 3) := by decide +kernel
theorem dX2_compare_98 : decode cX2_compare 98 = .ok (.iconst (-1), 1) := by decide +kernel
theorem dX2_compare_99 : decode cX2_compare 99 = .ok (.goto 4, 3) := by decide +kernel
theorem dX2_compare_102 : decode cX2_compare 102 = .ok (.iconst 1, 1) := by decide +kernel
theorem dX2_compare_103 : decode cX2_compare 103 = .ok (.ireturn, 1) := by decide +kernel
set_option maxRecDepth 20000 in
theorem ggX2_text_X0_told : GoodIn wsX2_text wsX0_told := goodIn_r _ [6, 7, 8, 9, 10, 11, 12, 13, 14, 15, 16, 17, 18, 19, 20, 21, 22, 23, 24, 25, 26, 27, 28, 29, 30, 31, 32, 33, 34, 35, 36, 37, 38, 39, 40, 41, 42, 43, 44, 45, 46, 47, 48, 49, 50, 51, 52, 53, 54, 55, 56, 57, 58, 59, 60, 61, 62, 63, 64, 65, 66, 67, 68, 69, 70, 71, 72, 73, 74, 75, 76, 77, 78, 79, 80, 81, 82, 83, 84, 85, 86, 87, 88, 89, 90, 91, 92, 93, 94, 95, 96, 97, 98, 99, 100, 101, 102, 103, 104, 105, 106, 107, 108, 109, 110, 111, 112, 113, 114, 115, 116, 117, 118, 119, 120, 121, 122, 123, 124, 125, 126, 127, 128, 129, 130, 131, 132, 133, 134, 135, 136, 137, 138, 139, 140, 141, 142, 143, 144, 145, 146, 147, 148, 149, 150, 151, 152, 153, 154, 155, 156, 157, 158, 159, 160, 161, 162, 163, 164, 165, 166, 167, 168, 169, 170, 171, 172, 173, 174, 175, 176, 177, 178, 179, 180, 181, 182, 183, 184, 185, 186, 187, 188, 189, 190, 191, 199, 200, 201, 202, 203, 204, 205, 206, 207, 208] (by decide +kernel) (by decide +kernel)
set_option maxRecDepth 20000 in
theorem gX2_text_X0_told : GoodIn wsX2_text (wsV RX2 188 RX0 yX0_told wsX0_told) := goodIn_app (goodIn_of _ (by decide +kernel)) ggX2_text_X0_told
theorem dX2_text_0 : decode cX2_text 0 = .ok (.aload_n 0, 1) := by decide +kernel
theorem dX2_text_1 : decode cX2_text 1 = .ok (.getfield 16, 3) := by decide +kernel
theorem dX2_text_4 : decode cX2_text 4 = .ok (.invokevirtual 188, 3) := by decide +kernel
theorem dX2_text_7 : decode cX2_text 7 = .ok (.areturn, 1) := by decide +kernel
set_option maxRecDepth 20000 in
theorem ggX2_digit_X0_size : GoodIn wsX2_digit wsX0_size := goodIn_r _ [8, 9, 31, 32] (by decide +kernel) (by decide +kernel)
set_option maxRecDepth 20000 in
theorem gX2_digit_X0_size : GoodIn wsX2_digit (wsV RX2 63 RX0 yX0_size wsX0_size) := goodIn_app (goodIn_of _ (by decide +kernel)) ggX2_digit_X0_size
set_option maxRecDepth 20000 in
theorem ggX2_digit_X2_checkRadix : GoodIn wsX2_digit wsX2_checkRadix := goodIn_ca (goodIn_r _ [13, 14, 15] (by decide +kernel) (by decide +kernel)) (goodIn_sub (fun _ h => List.mem_cons_of_mem _ (List.mem_append_right _ h)) (by decide +kernel))
set_option maxRecDepth 20000 in
theorem gX2_digit_X2_checkRadix : GoodIn wsX2_digit (va_wsS RX2 197 yX2_checkRadix wsX2_checkRadix) := goodIn_app (goodIn_of _ (by decide +kernel)) ggX2_digit_X2_checkRadix
set_option maxRecDepth 20000 in
theorem ggX2_digit_X0_digitAt : GoodIn wsX2_digit wsX0_digitAt := goodIn_r _ [19, 9, 20, 21, 22, 7, 23, 31, 32] (by decide +kernel) (by decide +kernel)
set_option maxRecDepth 20000 in
theorem gX2_digit_X0_digitAt : GoodIn wsX2_digit (wsV RX2 200 RX0 yX0_digitAt wsX0_digitAt) := goodIn_app (goodIn_of _ (by decide +kernel)) ggX2_digit_X0_digitAt
theorem dX2_digit_0 : decode cX2_digit 0 = .ok (.iload_n 1, 1) := by decide +kernel
theorem dX2_digit_1 : decode cX2_digit 1 = .ok (.ifCond .lt 14, 3) := by decide +kernel
theorem dX2_digit_4 : decode cX2_digit 4 = .ok (.iload_n 1, 1) := by decide +kernel
theorem dX2_digit_5 : decode cX2_digit 5 = .ok (.aload_n 0, 1) := by decide +kernel
theorem dX2_digit_6 : decode cX2_digit 6 = .ok (.getfield 16, 3) := by decide +kernel
theorem dX2_digit_9 : decode cX2_digit 9 = .ok (.invokevirtual 63, 3) := by decide +kernel
theorem dX2_digit_12 : decode cX2_digit 12 = .ok (.if_icmp .lt 13, 3) := by decide +kernel
theorem dX2_digit_15 : decode cX2_digit 15 = .ok (.new 192, 3) := by decide +kernel
theorem dX2_digit_18 : decode cX2_digit 18 = .ok (.dup, 1) := by decide +kernel
theorem dX2_digit_19 : decode cX2_digit 19 = .ok (.ldc 194, 2) := by decide +kernel
theorem dX2_digit_21 : decode cX2_digit 21 = .ok (.invokespecial 196, 3) := by decide +kernel
theorem dX2_digit_24 : decode cX2_digit 24 = .ok (.athrow, 1) := by decide +kernel
theorem dX2_digit_25 : decode cX2_digit 25 = .ok (.iload_n 2, 1) := by decide +kernel
theorem dX2_digit_26 : decode cX2_digit 26 = .ok (.invokestatic 197, 3) := by decide +kernel
theorem dX2_digit_29 : decode cX2_digit 29 = .ok (.aload_n 0, 1) := by decide +kernel
theorem dX2_digit_30 : decode cX2_digit 30 = .ok (.getfield 16, 3) := by decide +kernel
theorem dX2_digit_33 : decode cX2_digit 33 = .ok (.iload_n 1, 1) := by decide +kernel
theorem dX2_digit_34 : decode cX2_digit 34 = .ok (.iload_n 2, 1) := by decide +kernel
theorem dX2_digit_35 : decode cX2_digit 35 = .ok (.invokevirtual 200, 3) := by decide +kernel
theorem dX2_digit_38 : decode cX2_digit 38 = .ok (.ireturn, 1) := by decide +kernel
set_option maxRecDepth 20000 in
theorem ggX2_bench_X2_checkWhat : GoodIn wsX2_bench wsX2_checkWhat := goodIn_ca (goodIn_r _ [9, 10, 11] (by decide +kernel) (by decide +kernel)) (goodIn_sub (fun _ h => List.mem_cons_of_mem _ (List.mem_append_right _ h)) (by decide +kernel))
set_option maxRecDepth 20000 in
theorem gX2_bench_X2_checkWhat : GoodIn wsX2_bench (va_wsS RX2 109 yX2_checkWhat wsX2_checkWhat) := goodIn_app (goodIn_of _ (by decide +kernel)) ggX2_bench_X2_checkWhat
set_option maxRecDepth 20000 in
theorem ggX2_bench_X0_size : GoodIn wsX2_bench wsX0_size := goodIn_r _ [16, 17, 25, 26] (by decide +kernel) (by decide +kernel)
set_option maxRecDepth 20000 in
theorem gX2_bench_X0_size : GoodIn wsX2_bench (wsV RX2 63 RX0 yX0_size wsX0_size) := goodIn_app (goodIn_of _ (by decide +kernel)) ggX2_bench_X0_size
theorem dX2_bench_0 : decode cX2_bench 0 = .ok (.iload_n 1, 1) := by decide +kernel
theorem dX2_bench_1 : decode cX2_bench 1 = .ok (.iconst 4, 1) := by decide +kernel
theorem dX2_bench_2 : decode cX2_bench 2 = .ok (.invokestatic 109, 3) := by decide +kernel
theorem dX2_bench_5 : decode cX2_bench 5 = .ok (.iload_n 1, 1) := by decide +kernel
theorem dX2_bench_6 : decode cX2_bench 6 = .ok (.tableswitch 53 0 3 #[30, 38, 43, 48], 30) := by decide +kernel
theorem dX2_bench_36 : decode cX2_bench 36 = .ok (.aload_n 0, 1) := by decide +kernel
theorem dX2_bench_37 : decode cX2_bench 37 = .ok (.getfield 16, 3) := by decide +kernel
theorem dX2_bench_40 : decode cX2_bench 40 = .ok (.invokevirtual 63, 3) := by decide +kernel
theorem dX2_bench_43 : decode cX2_bench 43 = .ok (.ireturn, 1) := by decide +kernel
theorem dX2_bench_44 : decode cX2_bench 44 = .ok (.aload_n 0, 1) := by decide +kernel
theorem dX2_bench_45 : decode cX2_bench 45 = .ok (.getfield 87, 3) := by decide +kernel
theorem dX2_bench_48 : decode cX2_bench 48 = .ok (.ireturn, 1) := by decide +kernel
theorem dX2_bench_49 : decode cX2_bench 49 = .ok (.aload_n 0, 1) := by decide +kernel
theorem dX2_bench_50 : decode cX2_bench 50 = .ok (.getfield 79, 3) := by decide +kernel
theorem dX2_bench_53 : decode cX2_bench 53 = .ok (.ireturn, 1) := by decide +kernel
theorem dX2_bench_54 : decode cX2_bench 54 = .ok (.aload_n 0, 1) := by decide +kernel
theorem dX2_bench_55 : decode cX2_bench 55 = .ok (.getfield 102, 3) := by decide +kernel
theorem dX2_bench_58 : decode cX2_bench 58 = .ok (.ireturn, 1) := by decide +kernel
theorem dX2_bench_59 : decode cX2_bench 59 = .ok (.aload_n 0, 1) := by decide +kernel
theorem dX2_bench_60 : decode cX2_bench 60 = .ok (.getfield 171, 3) := by decide +kernel
theorem dX2_bench_63 : decode cX2_bench 63 = .ok (.ireturn, 1) := by decide +kernel
set_option maxRecDepth 20000 in
theorem ggX2_isNumber_X2_checkRadixAndKind : GoodIn wsX2_isNumber wsX2_checkRadixAndKind := goodIn_ca (goodIn_r _ [5, 6, 7, 4, 8, 9, 10, 11, 12, 13] (by decide +kernel) (by decide +kernel)) (goodIn_sub (fun _ h => List.mem_cons_of_mem _ (List.mem_append_right _ h)) (by decide +kernel))
set_option maxRecDepth 20000 in
theorem gX2_isNumber_X2_checkRadixAndKind : GoodIn wsX2_isNumber (va_wsS RX2 75 yX2_checkRadixAndKind wsX2_checkRadixAndKind) := goodIn_app (goodIn_of _ (by decide +kernel)) ggX2_isNumber_X2_checkRadixAndKind
set_option maxRecDepth 20000 in
theorem ggX2_isNumber_X0_isNumberOf : GoodIn wsX2_isNumber wsX0_isNumberOf := goodIn_r _ [18, 19, 20, 21, 22, 17, 23, 24, 25, 4, 26, 27, 28, 29, 30, 31, 32, 33, 34, 35, 36, 37, 38, 39, 40, 41, 42, 43, 44, 45, 46, 47, 48, 49, 50, 51, 52, 53, 54, 55, 56, 57, 58, 59, 67, 68] (by decide +kernel) (by decide +kernel)
set_option maxRecDepth 20000 in
theorem gX2_isNumber_X0_isNumberOf : GoodIn wsX2_isNumber (wsV RX2 83 RX0 yX0_isNumberOf wsX0_isNumberOf) := goodIn_app (goodIn_of _ (by decide +kernel)) ggX2_isNumber_X0_isNumberOf
theorem dX2_isNumber_0 : decode cX2_isNumber 0 = .ok (.iload_n 1, 1) := by decide +kernel
theorem dX2_isNumber_1 : decode cX2_isNumber 1 = .ok (.iload_n 2, 1) := by decide +kernel
theorem dX2_isNumber_2 : decode cX2_isNumber 2 = .ok (.invokestatic 75, 3) := by decide +kernel
theorem dX2_isNumber_5 : decode cX2_isNumber 5 = .ok (.aload_n 0, 1) := by decide +kernel
theorem dX2_isNumber_6 : decode cX2_isNumber 6 = .ok (.getfield 16, 3) := by decide +kernel
theorem dX2_isNumber_9 : decode cX2_isNumber 9 = .ok (.iload_n 1, 1) := by decide +kernel
theorem dX2_isNumber_10 : decode cX2_isNumber 10 = .ok (.iload_n 2, 1) := by decide +kernel
theorem dX2_isNumber_11 : decode cX2_isNumber 11 = .ok (.invokevirtual 83, 3) := by decide +kernel
theorem dX2_isNumber_14 : decode cX2_isNumber 14 = .ok (.ireturn, 1) := by decide +kernel
set_option maxRecDepth 20000 in
theorem ggX2_would_X2_checkRadixAndKind : GoodIn wsX2_would wsX2_checkRadixAndKind := goodIn_ca (goodIn_r _ [5, 6, 7, 4, 8, 9, 10, 11, 12, 13] (by decide +kernel) (by decide +kernel)) (goodIn_sub (fun _ h => List.mem_cons_of_mem _ (List.mem_append_right _ h)) (by decide +kernel))
set_option maxRecDepth 20000 in
theorem gX2_would_X2_checkRadixAndKind : GoodIn wsX2_would (va_wsS RX2 75 yX2_checkRadixAndKind wsX2_checkRadixAndKind) := goodIn_app (goodIn_of _ (by decide +kernel)) ggX2_would_X2_checkRadixAndKind
set_option maxRecDepth 20000 in
theorem ggX2_would_X0_isNumberOf : GoodIn wsX2_would wsX0_isNumberOf := goodIn_r _ [18, 19, 20, 21, 22, 17, 23, 24, 25, 4, 26, 27, 28, 29, 30, 31, 32, 33, 34, 35, 36, 37, 38, 39, 40, 41, 42, 43, 44, 45, 46, 47, 48, 49, 50, 51, 52, 53, 54, 55, 56, 57, 58, 59, 80, 81] (by decide +kernel) (by decide +kernel)
set_option maxRecDepth 20000 in
theorem gX2_would_X0_isNumberOf : GoodIn wsX2_would (wsV RX2 83 RX0 yX0_isNumberOf wsX0_isNumberOf) := goodIn_app (goodIn_of _ (by decide +kernel)) ggX2_would_X0_isNumberOf
set_option maxRecDepth 20000 in
theorem ggX2_would_X0_numberHeld : GoodIn wsX2_would wsX0_numberHeld := goodIn_r _ [63, 19, 27, 28, 29, 17, 30, 20, 21, 22, 23, 24, 52, 53, 54, 55, 56, 57, 58, 80, 81] (by decide +kernel) (by decide +kernel)
set_option maxRecDepth 20000 in
theorem gX2_would_X0_numberHeld : GoodIn wsX2_would (wsV RX2 90 RX0 yX0_numberHeld wsX0_numberHeld) := goodIn_app (goodIn_of _ (by decide +kernel)) ggX2_would_X0_numberHeld
set_option maxRecDepth 20000 in
theorem ggX2_would_X2_isOfInt : GoodIn wsX2_would wsX2_isOfInt := goodIn_r _ [66] (by decide +kernel) (by decide +kernel)
set_option maxRecDepth 20000 in
theorem gX2_would_X2_isOfInt : GoodIn wsX2_would (va_wsS RX2 94 yX2_isOfInt wsX2_isOfInt) := goodIn_app (goodIn_of _ (by decide +kernel)) ggX2_would_X2_isOfInt
set_option maxRecDepth 20000 in
theorem ggX2_would_X2_setting : GoodIn wsX2_would wsX2_setting := goodIn_r _ [69] (by decide +kernel) (by decide +kernel)
set_option maxRecDepth 20000 in
theorem gX2_would_X2_setting : GoodIn wsX2_would (va_wsS RX2 98 yX2_setting wsX2_setting) := goodIn_app (goodIn_of _ (by decide +kernel)) ggX2_would_X2_setting
set_option maxRecDepth 20000 in
theorem ggX2_would_X2_highOf : GoodIn wsX2_would wsX2_highOf := goodIn_r _ [72] (by decide +kernel) (by decide +kernel)
set_option maxRecDepth 20000 in
theorem gX2_would_X2_highOf : GoodIn wsX2_would (va_wsS RX2 174 yX2_highOf wsX2_highOf) := goodIn_app (goodIn_of _ (by decide +kernel)) ggX2_would_X2_highOf
theorem dX2_would_0 : decode cX2_would 0 = .ok (.iload_n 1, 1) := by decide +kernel
theorem dX2_would_1 : decode cX2_would 1 = .ok (.iload_n 2, 1) := by decide +kernel
theorem dX2_would_2 : decode cX2_would 2 = .ok (.invokestatic 75, 3) := by decide +kernel
theorem dX2_would_5 : decode cX2_would 5 = .ok (.aload_n 0, 1) := by decide +kernel
theorem dX2_would_6 : decode cX2_would 6 = .ok (.getfield 16, 3) := by decide +kernel
theorem dX2_would_9 : decode cX2_would 9 = .ok (.iload_n 1, 1) := by decide +kernel
theorem dX2_would_10 : decode cX2_would 10 = .ok (.iload_n 2, 1) := by decide +kernel
theorem dX2_would_11 : decode cX2_would 11 = .ok (.invokevirtual 83, 3) := by decide +kernel
theorem dX2_would_14 : decode cX2_would 14 = .ok (.ifCond .ne 5, 3) := by decide +kernel
theorem dX2_would_17 : decode cX2_would 17 = .ok (.iconst 0, 1) := by decide +kernel
theorem dX2_would_18 : decode cX2_would 18 = .ok (.ireturn, 1) := by decide +kernel
theorem dX2_would_19 : decode cX2_would 19 = .ok (.aload_n 0, 1) := by decide +kernel
theorem dX2_would_20 : decode cX2_would 20 = .ok (.getfield 16, 3) := by decide +kernel
theorem dX2_would_23 : decode cX2_would 23 = .ok (.iload_n 1, 1) := by decide +kernel
theorem dX2_would_24 : decode cX2_would 24 = .ok (.invokevirtual 90, 3) := by decide +kernel
theorem dX2_would_27 : decode cX2_would 27 = .ok (.iload_n 2, 1) := by decide +kernel
theorem dX2_would_28 : decode cX2_would 28 = .ok (.invokestatic 94, 3) := by decide +kernel
theorem dX2_would_31 : decode cX2_would 31 = .ok (.invokestatic 98, 3) := by decide +kernel
theorem dX2_would_34 : decode cX2_would 34 = .ok (.lstore 4, 2) := by decide +kernel
theorem dX2_would_36 : decode cX2_would 36 = .ok (.iload_n 3, 1) := by decide +kernel
theorem dX2_would_37 : decode cX2_would 37 = .ok (.ifCond .eq 11, 3) := by decide +kernel
theorem dX2_would_40 : decode cX2_would 40 = .ok (.lload 4, 2) := by decide +kernel
theorem dX2_would_42 : decode cX2_would 42 = .ok (.invokestatic 174, 3) := by decide +kernel
theorem dX2_would_45 : decode cX2_would 45 = .ok (.goto 6, 3) := by decide +kernel
theorem dX2_would_48 : decode cX2_would 48 = .ok (.lload 4, 2) := by decide +kernel
theorem dX2_would_50 : decode cX2_would 50 = .ok (.l2i, 1) := by decide +kernel
theorem dX2_would_51 : decode cX2_would 51 = .ok (.ireturn, 1) := by decide +kernel
set_option maxRecDepth 20000 in
theorem ggX2_written_X2_checkCell : GoodIn wsX2_written wsX2_checkCell := goodIn_ca (goodIn_r _ [5, 6, 7] (by decide +kernel) (by decide +kernel)) (goodIn_sub (fun _ h => List.mem_cons_of_mem _ (List.mem_append_left _ (List.mem_append_right _ h))) (by decide +kernel))
set_option maxRecDepth 20000 in
theorem gX2_written_X2_checkCell : GoodIn wsX2_written (va_wsS RX2 23 yX2_checkCell wsX2_checkCell) := goodIn_app (goodIn_of _ (by decide +kernel)) ggX2_written_X2_checkCell
set_option maxRecDepth 20000 in
theorem ggX2_written_X2_checkRadixAndKind : GoodIn wsX2_written wsX2_checkRadixAndKind := goodIn_ca (goodIn_r _ [10, 11, 12, 4, 13, 14, 15, 16, 17, 18] (by decide +kernel) (by decide +kernel)) (goodIn_sub (fun _ h => List.mem_cons_of_mem _ (List.mem_append_right _ h)) (by decide +kernel))
set_option maxRecDepth 20000 in
theorem gX2_written_X2_checkRadixAndKind : GoodIn wsX2_written (va_wsS RX2 75 yX2_checkRadixAndKind wsX2_checkRadixAndKind) := goodIn_app (goodIn_of _ (by decide +kernel)) ggX2_written_X2_checkRadixAndKind
set_option maxRecDepth 20000 in
theorem ggX2_written_X2_tellInto : GoodIn wsX2_written wsX2_tellInto := goodIn_r _ [22, 23, 24, 4, 25, 26, 27, 28, 29, 30, 31, 32, 33, 34, 35, 36, 37, 38, 39, 40, 41, 42, 43, 44, 45, 46, 47, 48, 49, 50, 51, 52, 53, 54, 55, 56, 57, 58, 59, 60, 61, 62, 63, 64, 65, 66, 67, 255, 256, 257, 258, 259, 260, 261, 262, 263] (by decide +kernel) (by decide +kernel)
set_option maxRecDepth 20000 in
theorem gX2_written_X2_tellInto : GoodIn wsX2_written (wsV RX2 105 RX2 yX2_tellInto wsX2_tellInto) := goodIn_app (goodIn_of _ (by decide +kernel)) ggX2_written_X2_tellInto
set_option maxRecDepth 20000 in
theorem ggX2_written_X0_told : GoodIn wsX2_written wsX0_told := goodIn_r _ [71, 72, 73, 74, 47, 63, 75, 76, 77, 78, 79, 80, 81, 82, 83, 84, 85, 86, 87, 88, 89, 90, 91, 92, 93, 94, 95, 96, 97, 98, 99, 100, 101, 102, 103, 104, 105, 106, 107, 108, 109, 110, 111, 112, 113, 114, 115, 116, 117, 118, 119, 120, 121, 122, 123, 124, 125, 126, 127, 128, 129, 130, 131, 132, 133, 134, 135, 136, 137, 138, 139, 140, 141, 142, 143, 144, 145, 146, 147, 148, 149, 150, 151, 152, 153, 154, 155, 156, 157, 158, 159, 160, 161, 162, 163, 164, 165, 166, 167, 168, 169, 170, 171, 172, 173, 174, 175, 176, 177, 178, 179, 180, 181, 182, 183, 184, 185, 186, 187, 188, 189, 190, 191, 192, 193, 194, 195, 196, 197, 198, 199, 200, 201, 202, 203, 204, 205, 206, 207, 208, 209, 210, 211, 212, 213, 214, 215, 216, 217, 218, 219, 220, 221, 222, 223, 224, 225, 226, 227, 228, 229, 230, 231, 232, 233, 234, 235, 236, 237, 238, 239, 240, 241, 242, 243, 244, 245, 246, 247, 248, 249, 250, 251, 252, 253, 254, 264, 265, 266, 267, 262, 263, 268, 269, 270, 271] (by decide +kernel) (by decide +kernel)
set_option maxRecDepth 20000 in
theorem gX2_written_X0_told : GoodIn wsX2_written (wsV RX2 188 RX0 yX0_told wsX0_told) := goodIn_app (goodIn_of _ (by decide +kernel)) ggX2_written_X0_told
theorem dX2_written_0 : decode cX2_written 0 = .ok (.iload_n 1, 1) := by decide +kernel
theorem dX2_written_1 : decode cX2_written 1 = .ok (.invokestatic 23, 3) := by decide +kernel
theorem dX2_written_4 : decode cX2_written 4 = .ok (.iload_n 2, 1) := by decide +kernel
theorem dX2_written_5 : decode cX2_written 5 = .ok (.iload_n 3, 1) := by decide +kernel
theorem dX2_written_6 : decode cX2_written 6 = .ok (.invokestatic 75, 3) := by decide +kernel
theorem dX2_written_9 : decode cX2_written 9 = .ok (.aload_n 0, 1) := by decide +kernel
theorem dX2_written_10 : decode cX2_written 10 = .ok (.aload_n 0, 1) := by decide +kernel
theorem dX2_written_11 : decode cX2_written 11 = .ok (.getfield 20, 3) := by decide +kernel
theorem dX2_written_14 : decode cX2_written 14 = .ok (.iload_n 1, 1) := by decide +kernel
theorem dX2_written_15 : decode cX2_written 15 = .ok (.iload_n 2, 1) := by decide +kernel
theorem dX2_written_16 : decode cX2_written 16 = .ok (.iload_n 3, 1) := by decide +kernel
theorem dX2_written_17 : decode cX2_written 17 = .ok (.invokevirtual 105, 3) := by decide +kernel
theorem dX2_written_20 : decode cX2_written 20 = .ok (.aload_n 0, 1) := by decide +kernel
theorem dX2_written_21 : decode cX2_written 21 = .ok (.getfield 20, 3) := by decide +kernel
theorem dX2_written_24 : decode cX2_written 24 = .ok (.invokevirtual 188, 3) := by decide +kernel
theorem dX2_written_27 : decode cX2_written 27 = .ok (.areturn, 1) := by decide +kernel
set_option maxRecDepth 20000 in
theorem ggX2_same_X2_checkRadixAndKind : GoodIn wsX2_same wsX2_checkRadixAndKind := goodIn_ca (goodIn_r _ [6, 7, 8, 5, 9, 10, 11, 12, 13, 14] (by decide +kernel) (by decide +kernel)) (goodIn_sub (fun _ h => List.mem_cons_of_mem _ (List.mem_append_right _ h)) (by decide +kernel))
set_option maxRecDepth 20000 in
theorem gX2_same_X2_checkRadixAndKind : GoodIn wsX2_same (va_wsS RX2 75 yX2_checkRadixAndKind wsX2_checkRadixAndKind) := goodIn_app (goodIn_of _ (by decide +kernel)) ggX2_same_X2_checkRadixAndKind
set_option maxRecDepth 20000 in
theorem ggX2_same_X0_isNumberOf : GoodIn wsX2_same wsX0_isNumberOf := goodIn_r _ [19, 20, 21, 22, 23, 18, 24, 25, 26, 5, 27, 28, 29, 30, 31, 32, 33, 34, 35, 36, 37, 38, 39, 40, 41, 42, 43, 44, 45, 46, 47, 48, 49, 50, 51, 52, 53, 54, 55, 56, 57, 58, 59, 60, 81, 82] (by decide +kernel) (by decide +kernel)
set_option maxRecDepth 20000 in
theorem gX2_same_X0_isNumberOf : GoodIn wsX2_same (wsV RX2 83 RX0 yX0_isNumberOf wsX0_isNumberOf) := goodIn_app (goodIn_of _ (by decide +kernel)) ggX2_same_X0_isNumberOf
set_option maxRecDepth 20000 in
theorem ggX2_same_X0_numberHeld : GoodIn wsX2_same wsX0_numberHeld := goodIn_r _ [64, 20, 28, 29, 30, 18, 31, 21, 22, 23, 24, 25, 53, 54, 55, 56, 57, 58, 59, 81, 82] (by decide +kernel) (by decide +kernel)
set_option maxRecDepth 20000 in
theorem gX2_same_X0_numberHeld : GoodIn wsX2_same (wsV RX2 90 RX0 yX0_numberHeld wsX0_numberHeld) := goodIn_app (goodIn_of _ (by decide +kernel)) ggX2_same_X0_numberHeld
set_option maxRecDepth 20000 in
theorem ggX2_same_X2_isSameOf : GoodIn wsX2_same wsX2_isSameOf := goodIn_r _ [67, 68, 69, 5, 70, 71, 72, 73] (by decide +kernel) (by decide +kernel)
set_option maxRecDepth 20000 in
theorem gX2_same_X2_isSameOf : GoodIn wsX2_same (va_wsS RX2 203 yX2_isSameOf wsX2_isSameOf) := goodIn_app (goodIn_of _ (by decide +kernel)) ggX2_same_X2_isSameOf
theorem dX2_same_0 : decode cX2_same 0 = .ok (.iload_n 1, 1) := by decide +kernel
theorem dX2_same_1 : decode cX2_same 1 = .ok (.iload_n 2, 1) := by decide +kernel
theorem dX2_same_2 : decode cX2_same 2 = .ok (.invokestatic 75, 3) := by decide +kernel
theorem dX2_same_5 : decode cX2_same 5 = .ok (.aload_n 0, 1) := by decide +kernel
theorem dX2_same_6 : decode cX2_same 6 = .ok (.getfield 16, 3) := by decide +kernel
theorem dX2_same_9 : decode cX2_same 9 = .ok (.iload_n 1, 1) := by decide +kernel
theorem dX2_same_10 : decode cX2_same 10 = .ok (.iload_n 2, 1) := by decide +kernel
theorem dX2_same_11 : decode cX2_same 11 = .ok (.invokevirtual 83, 3) := by decide +kernel
theorem dX2_same_14 : decode cX2_same 14 = .ok (.ifCond .ne 5, 3) := by decide +kernel
theorem dX2_same_17 : decode cX2_same 17 = .ok (.iconst 0, 1) := by decide +kernel
theorem dX2_same_18 : decode cX2_same 18 = .ok (.ireturn, 1) := by decide +kernel
theorem dX2_same_19 : decode cX2_same 19 = .ok (.aload_n 0, 1) := by decide +kernel
theorem dX2_same_20 : decode cX2_same 20 = .ok (.getfield 16, 3) := by decide +kernel
theorem dX2_same_23 : decode cX2_same 23 = .ok (.iload_n 1, 1) := by decide +kernel
theorem dX2_same_24 : decode cX2_same 24 = .ok (.invokevirtual 90, 3) := by decide +kernel
theorem dX2_same_27 : decode cX2_same 27 = .ok (.lstore_n 3, 1) := by decide +kernel
theorem dX2_same_28 : decode cX2_same 28 = .ok (.iconst 0, 1) := by decide +kernel
theorem dX2_same_29 : decode cX2_same 29 = .ok (.istore 5, 2) := by decide +kernel
theorem dX2_same_31 : decode cX2_same 31 = .ok (.iconst 0, 1) := by decide +kernel
theorem dX2_same_32 : decode cX2_same 32 = .ok (.istore 6, 2) := by decide +kernel
theorem dX2_same_34 : decode cX2_same 34 = .ok (.iload 6, 2) := by decide +kernel
theorem dX2_same_36 : decode cX2_same 36 = .ok (.bipush 8, 2) := by decide +kernel
theorem dX2_same_38 : decode cX2_same 38 = .ok (.if_icmp .ge 33, 3) := by decide +kernel
theorem dX2_same_41 : decode cX2_same 41 = .ok (.iload_n 2, 1) := by decide +kernel
theorem dX2_same_42 : decode cX2_same 42 = .ok (.aload_n 0, 1) := by decide +kernel
theorem dX2_same_43 : decode cX2_same 43 = .ok (.getfield 9, 3) := by decide +kernel
theorem dX2_same_46 : decode cX2_same 46 = .ok (.iload 6, 2) := by decide +kernel
theorem dX2_same_48 : decode cX2_same 48 = .ok (.laload, 1) := by decide +kernel
theorem dX2_same_49 : decode cX2_same 49 = .ok (.lload_n 3, 1) := by decide +kernel
theorem dX2_same_50 : decode cX2_same 50 = .ok (.invokestatic 203, 3) := by decide +kernel
theorem dX2_same_53 : decode cX2_same 53 = .ok (.ifCond .eq 12, 3) := by decide +kernel
theorem dX2_same_56 : decode cX2_same 56 = .ok (.iload 5, 2) := by decide +kernel
theorem dX2_same_58 : decode cX2_same 58 = .ok (.iconst 1, 1) := by decide +kernel
theorem dX2_same_59 : decode cX2_same 59 = .ok (.iload 6, 2) := by decide +kernel
theorem dX2_same_61 : decode cX2_same 61 = .ok (.ishl, 1) := by decide +kernel
theorem dX2_same_62 : decode cX2_same 62 = .ok (.ior, 1) := by decide +kernel
theorem dX2_same_63 : decode cX2_same 63 = .ok (.istore 5, 2) := by decide +kernel
theorem dX2_same_65 : decode cX2_same 65 = .ok (.iinc 6 1, 3) := by decide +kernel
theorem dX2_same_68 : decode cX2_same 68 = .ok (.goto (-34), 3) := by decide +kernel
theorem dX2_same_71 : decode cX2_same 71 = .ok (.iload 5, 2) := by decide +kernel
theorem dX2_same_73 : decode cX2_same 73 = .ok (.ireturn, 1) := by decide +kernel
set_option maxRecDepth 20000 in
theorem ggX2_isSound_X2_isReadBack : GoodIn wsX2_isSound wsX2_isReadBack := goodIn_r _ [6, 7, 1, 8, 9, 10, 5, 11, 12, 13, 14, 15, 16, 17, 18, 19, 20, 21, 22, 23, 24, 25, 26, 27, 28, 29, 30, 31, 32, 33, 34, 35, 36, 37, 38, 39, 40, 41, 42, 43, 44, 45, 46, 47, 48, 49, 50, 51, 52, 53, 54, 55, 56, 57, 58, 59, 60, 61, 62, 63, 64, 65, 66, 67, 68, 69, 70, 71, 72, 73, 74, 75, 76, 77, 78, 79, 80, 81, 82, 83, 84, 85, 86, 87, 88, 89, 90, 91, 92, 93, 94, 95, 133, 134, 135, 136, 137, 138, 139, 140, 141] (by decide +kernel) (by decide +kernel)
set_option maxRecDepth 20000 in
theorem gX2_isSound_X2_isReadBack : GoodIn wsX2_isSound (wsV RX2 207 RX2 yX2_isReadBack wsX2_isReadBack) := goodIn_app (goodIn_of _ (by decide +kernel)) ggX2_isSound_X2_isReadBack
set_option maxRecDepth 20000 in
theorem ggX2_isSound_X2_isDivided : GoodIn wsX2_isSound wsX2_isDivided := goodIn_r _ [98, 99, 37, 38, 39, 40, 41, 42, 43, 100] (by decide +kernel) (by decide +kernel)
set_option maxRecDepth 20000 in
theorem gX2_isSound_X2_isDivided : GoodIn wsX2_isSound (va_wsS RX2 210 yX2_isDivided wsX2_isDivided) := goodIn_app (goodIn_of _ (by decide +kernel)) ggX2_isSound_X2_isDivided
set_option maxRecDepth 20000 in
theorem ggX2_isSound_X2_isTurnedBack : GoodIn wsX2_isSound wsX2_isTurnedBack := goodIn_r _ [103, 104, 105, 106, 107, 108, 109, 110, 111, 112, 113, 114, 115, 116, 117, 118, 119] (by decide +kernel) (by decide +kernel)
set_option maxRecDepth 20000 in
theorem gX2_isSound_X2_isTurnedBack : GoodIn wsX2_isSound (va_wsS RX2 213 yX2_isTurnedBack wsX2_isTurnedBack) := goodIn_app (goodIn_of _ (by decide +kernel)) ggX2_isSound_X2_isTurnedBack
set_option maxRecDepth 20000 in
theorem ggX2_isSound_J13_bitCount_95d88 : GoodIn wsX2_isSound wsJ13_bitCount_95d88 := goodIn_r _ [122, 111, 112, 113] (by decide +kernel) (by decide +kernel)
set_option maxRecDepth 20000 in
theorem gX2_isSound_J13_bitCount_95d88 : GoodIn wsX2_isSound (va_wsS RX2 29 yJ13_bitCount_95d88 wsJ13_bitCount_95d88) := goodIn_app (goodIn_of _ (by decide +kernel)) ggX2_isSound_J13_bitCount_95d88
set_option maxRecDepth 20000 in
theorem ggX2_isSound_X2_highOf : GoodIn wsX2_isSound wsX2_highOf := goodIn_r _ [125] (by decide +kernel) (by decide +kernel)
set_option maxRecDepth 20000 in
theorem gX2_isSound_X2_highOf : GoodIn wsX2_isSound (va_wsS RX2 174 yX2_highOf wsX2_highOf) := goodIn_app (goodIn_of _ (by decide +kernel)) ggX2_isSound_X2_highOf
set_option maxRecDepth 20000 in
theorem ggX2_isSound_J6_bitCount_0f7a4 : GoodIn wsX2_isSound wsJ6_bitCount_0f7a4 := goodIn_r _ [129, 130, 131, 132] (by decide +kernel) (by decide +kernel)
set_option maxRecDepth 20000 in
theorem gX2_isSound_J6_bitCount_0f7a4 : GoodIn wsX2_isSound (va_wsS RX2 217 yJ6_bitCount_0f7a4 wsJ6_bitCount_0f7a4) := goodIn_app (goodIn_of _ (by decide +kernel)) ggX2_isSound_J6_bitCount_0f7a4
theorem dX2_isSound_0 : decode cX2_isSound 0 = .ok (.iconst 0, 1) := by decide +kernel
theorem dX2_isSound_1 : decode cX2_isSound 1 = .ok (.istore_n 1, 1) := by decide +kernel
theorem dX2_isSound_2 : decode cX2_isSound 2 = .ok (.iload_n 1, 1) := by decide +kernel
theorem dX2_isSound_3 : decode cX2_isSound 3 = .ok (.bipush 8, 2) := by decide +kernel
theorem dX2_isSound_5 : decode cX2_isSound 5 = .ok (.if_icmp .ge 77, 3) := by decide +kernel
theorem dX2_isSound_8 : decode cX2_isSound 8 = .ok (.aload_n 0, 1) := by decide +kernel
theorem dX2_isSound_9 : decode cX2_isSound 9 = .ok (.getfield 9, 3) := by decide +kernel
theorem dX2_isSound_12 : decode cX2_isSound 12 = .ok (.iload_n 1, 1) := by decide +kernel
theorem dX2_isSound_13 : decode cX2_isSound 13 = .ok (.laload, 1) := by decide +kernel
theorem dX2_isSound_14 : decode cX2_isSound 14 = .ok (.lstore_n 2, 1) := by decide +kernel
theorem dX2_isSound_15 : decode cX2_isSound 15 = .ok (.aload_n 0, 1) := by decide +kernel
theorem dX2_isSound_16 : decode cX2_isSound 16 = .ok (.getfield 9, 3) := by decide +kernel
theorem dX2_isSound_19 : decode cX2_isSound 19 = .ok (.iload_n 1, 1) := by decide +kernel
theorem dX2_isSound_20 : decode cX2_isSound 20 = .ok (.iconst 1, 1) := by decide +kernel
theorem dX2_isSound_21 : decode cX2_isSound 21 = .ok (.iadd, 1) := by decide +kernel
theorem dX2_isSound_22 : decode cX2_isSound 22 = .ok (.bipush 8, 2) := by decide +kernel
theorem dX2_isSound_24 : decode cX2_isSound 24 = .ok (.irem, 1) := by decide +kernel
theorem dX2_isSound_25 : decode cX2_isSound 25 = .ok (.laload, 1) := by decide +kernel
theorem dX2_isSound_26 : decode cX2_isSound 26 = .ok (.lstore 4, 2) := by decide +kernel
theorem dX2_isSound_28 : decode cX2_isSound 28 = .ok (.aload_n 0, 1) := by decide +kernel
theorem dX2_isSound_29 : decode cX2_isSound 29 = .ok (.iload_n 1, 1) := by decide +kernel
theorem dX2_isSound_30 : decode cX2_isSound 30 = .ok (.invokevirtual 207, 3) := by decide +kernel
theorem dX2_isSound_33 : decode cX2_isSound 33 = .ok (.ifCond .eq 19, 3) := by decide +kernel
theorem dX2_isSound_36 : decode cX2_isSound 36 = .ok (.lload_n 2, 1) := by decide +kernel
theorem dX2_isSound_37 : decode cX2_isSound 37 = .ok (.lload 4, 2) := by decide +kernel
theorem dX2_isSound_39 : decode cX2_isSound 39 = .ok (.invokestatic 210, 3) := by decide +kernel
theorem dX2_isSound_42 : decode cX2_isSound 42 = .ok (.ifCond .eq 10, 3) := by decide +kernel
theorem dX2_isSound_45 : decode cX2_isSound 45 = .ok (.lload_n 2, 1) := by decide +kernel
theorem dX2_isSound_46 : decode cX2_isSound 46 = .ok (.invokestatic 213, 3) := by decide +kernel
theorem dX2_isSound_49 : decode cX2_isSound 49 = .ok (.ifCond .ne 5, 3) := by decide +kernel
theorem dX2_isSound_52 : decode cX2_isSound 52 = .ok (.iconst 0, 1) := by decide +kernel
theorem dX2_isSound_53 : decode cX2_isSound 53 = .ok (.ireturn, 1) := by decide +kernel
theorem dX2_isSound_54 : decode cX2_isSound 54 = .ok (.lload_n 2, 1) := by decide +kernel
theorem dX2_isSound_55 : decode cX2_isSound 55 = .ok (.invokestatic 29, 3) := by decide +kernel
theorem dX2_isSound_58 : decode cX2_isSound 58 = .ok (.lload_n 2, 1) := by decide +kernel
theorem dX2_isSound_59 : decode cX2_isSound 59 = .ok (.invokestatic 174, 3) := by decide +kernel
theorem dX2_isSound_62 : decode cX2_isSound 62 = .ok (.invokestatic 217, 3) := by decide +kernel
theorem dX2_isSound_65 : decode cX2_isSound 65 = .ok (.lload_n 2, 1) := by decide +kernel
theorem dX2_isSound_66 : decode cX2_isSound 66 = .ok (.l2i, 1) := by decide +kernel
theorem dX2_isSound_67 : decode cX2_isSound 67 = .ok (.invokestatic 217, 3) := by decide +kernel
theorem dX2_isSound_70 : decode cX2_isSound 70 = .ok (.iadd, 1) := by decide +kernel
theorem dX2_isSound_71 : decode cX2_isSound 71 = .ok (.if_icmp .eq 5, 3) := by decide +kernel
theorem dX2_isSound_74 : decode cX2_isSound 74 = .ok (.iconst 0, 1) := by decide +kernel
theorem dX2_isSound_75 : decode cX2_isSound 75 = .ok (.ireturn, 1) := by decide +kernel
theorem dX2_isSound_76 : decode cX2_isSound 76 = .ok (.iinc 1 1, 3) := by decide +kernel
theorem dX2_isSound_79 : decode cX2_isSound 79 = .ok (.goto (-77), 3) := by decide +kernel
theorem dX2_isSound_82 : decode cX2_isSound 82 = .ok (.iconst 1, 1) := by decide +kernel
theorem dX2_isSound_83 : decode cX2_isSound 83 = .ok (.ireturn, 1) := by decide +kernel
set_option maxRecDepth 20000 in
theorem ggX2_digest_X2_bench : GoodIn wsX2_digest wsX2_bench := goodIn_ca (goodIn_r _ [9, 3, 10, 11, 12, 13, 14, 15, 8, 16, 17, 18, 19, 20, 21, 22, 23, 24, 203, 204, 205, 206, 207, 208, 209, 210, 211] (by decide +kernel) (by decide +kernel)) (goodIn_sub (fun _ h => List.mem_cons_of_mem _ (List.mem_append_right _ h)) (by decide +kernel))
set_option maxRecDepth 20000 in
theorem gX2_digest_X2_bench : GoodIn wsX2_digest (wsV RX2 223 RX2 yX2_bench wsX2_bench) := goodIn_app (goodIn_of _ (by decide +kernel)) ggX2_digest_X2_bench
set_option maxRecDepth 20000 in
theorem ggX2_digest_X2_sumOfCell : GoodIn wsX2_digest wsX2_sumOfCell := goodIn_r _ [28, 29, 2, 30, 31, 8, 32, 33, 34, 35, 36, 37, 38, 39, 40, 41, 42, 43, 44, 45, 46, 47, 48, 49, 50, 51, 52, 53, 54, 55, 56, 57, 58, 59, 60, 61, 62, 63, 64, 65, 66, 67, 68, 69, 70, 71, 72, 73, 203, 204, 205, 206, 207, 208, 209] (by decide +kernel) (by decide +kernel)
set_option maxRecDepth 20000 in
theorem gX2_digest_X2_sumOfCell : GoodIn wsX2_digest (wsV RX2 226 RX2 yX2_sumOfCell wsX2_sumOfCell) := goodIn_app (goodIn_of _ (by decide +kernel)) ggX2_digest_X2_sumOfCell
set_option maxRecDepth 20000 in
theorem ggX2_digest_X0_size : GoodIn wsX2_digest wsX0_size := goodIn_r _ [23, 24, 210, 211] (by decide +kernel) (by decide +kernel)
set_option maxRecDepth 20000 in
theorem gX2_digest_X0_size : GoodIn wsX2_digest (wsV RX2 63 RX0 yX0_size wsX0_size) := goodIn_app (goodIn_of _ (by decide +kernel)) ggX2_digest_X0_size
set_option maxRecDepth 20000 in
theorem ggX2_digest_X0_digitAt : GoodIn wsX2_digest wsX0_digitAt := goodIn_r _ [77, 24, 78, 79, 80, 22, 81, 210, 211] (by decide +kernel) (by decide +kernel)
set_option maxRecDepth 20000 in
theorem gX2_digest_X0_digitAt : GoodIn wsX2_digest (wsV RX2 200 RX0 yX0_digitAt wsX0_digitAt) := goodIn_app (goodIn_of _ (by decide +kernel)) ggX2_digest_X0_digitAt
set_option maxRecDepth 20000 in
theorem ggX2_digest_X2_would : GoodIn wsX2_digest wsX2_would := goodIn_ca (goodIn_r _ [85, 3, 86, 87, 8, 88, 89, 90, 91, 17, 18, 14, 15, 16, 92, 93, 94, 22, 95, 24, 96, 97, 98, 99, 78, 100, 101, 102, 103, 104, 105, 106, 107, 108, 109, 110, 111, 112, 113, 114, 115, 116, 117, 118, 119, 120, 121, 122, 123, 124, 125, 126, 127, 75, 76, 77, 79, 80, 81, 128, 129, 130, 131, 132, 133, 134, 135, 136, 137, 138, 30, 31, 32, 203, 204, 205, 206, 207, 208, 209, 210, 211] (by decide +kernel) (by decide +kernel)) (goodIn_sub (fun _ h => List.mem_cons_of_mem _ (List.mem_append_right _ h)) (by decide +kernel))
set_option maxRecDepth 20000 in
theorem gX2_digest_X2_would : GoodIn wsX2_digest (wsV RX2 229 RX2 yX2_would wsX2_would) := goodIn_app (goodIn_of _ (by decide +kernel)) ggX2_digest_X2_would
set_option maxRecDepth 20000 in
theorem ggX2_digest_X2_tellInto : GoodIn wsX2_digest wsX2_tellInto := goodIn_r _ [142, 133, 134, 8, 135, 143, 100, 101, 144, 145, 146, 147, 29, 136, 137, 138, 148, 149, 150, 151, 152, 153, 154, 155, 22, 156, 24, 119, 120, 121, 122, 123, 124, 125, 126, 157, 158, 159, 160, 161, 162, 163, 78, 164, 165, 166, 167, 203, 204, 205, 206, 207, 208, 209, 210, 211] (by decide +kernel) (by decide +kernel)
set_option maxRecDepth 20000 in
theorem gX2_digest_X2_tellInto : GoodIn wsX2_digest (wsV RX2 105 RX2 yX2_tellInto wsX2_tellInto) := goodIn_app (goodIn_of _ (by decide +kernel)) ggX2_digest_X2_tellInto
set_option maxRecDepth 20000 in
theorem ggX2_digest_X2_same : GoodIn wsX2_digest wsX2_same := goodIn_ca (goodIn_r _ [171, 3, 29, 86, 87, 8, 88, 89, 90, 91, 17, 18, 14, 15, 16, 92, 93, 94, 22, 95, 24, 96, 97, 98, 99, 78, 100, 101, 102, 103, 104, 105, 106, 107, 108, 109, 110, 111, 112, 113, 114, 115, 116, 117, 118, 119, 120, 121, 122, 123, 124, 125, 126, 127, 75, 76, 77, 79, 80, 81, 128, 129, 130, 131, 132, 172, 173, 174, 133, 134, 135, 136, 137, 138, 203, 204, 205, 206, 207, 208, 209, 210, 211] (by decide +kernel) (by decide +kernel)) (goodIn_sub (fun _ h => List.mem_cons_of_mem _ (List.mem_append_right _ h)) (by decide +kernel))
set_option maxRecDepth 20000 in
theorem gX2_digest_X2_same : GoodIn wsX2_digest (wsV RX2 233 RX2 yX2_same wsX2_same) := goodIn_app (goodIn_of _ (by decide +kernel)) ggX2_digest_X2_same
set_option maxRecDepth 20000 in
theorem ggX2_digest_X2_isSound : GoodIn wsX2_digest wsX2_isSound := goodIn_r _ [178, 29, 179, 180, 181, 8, 182, 4, 139, 140, 141, 142, 133, 134, 135, 143, 100, 101, 144, 145, 146, 147, 136, 137, 138, 148, 149, 150, 151, 152, 153, 154, 155, 22, 156, 24, 119, 120, 121, 122, 123, 124, 125, 126, 157, 158, 159, 160, 161, 162, 163, 78, 164, 165, 166, 167, 92, 93, 94, 95, 96, 97, 98, 99, 102, 103, 104, 105, 106, 107, 108, 109, 110, 111, 112, 113, 114, 115, 116, 117, 118, 127, 75, 76, 77, 79, 80, 81, 128, 129, 130, 131, 132, 172, 173, 174, 183, 184, 185, 186, 187, 188, 189, 190, 191, 192, 38, 193, 194, 195, 196, 40, 41, 42, 197, 198, 199, 200, 201, 202, 36, 37, 39, 30, 31, 32, 63, 64, 48, 65, 66, 67, 68, 203, 204, 205, 206, 207, 208, 209, 210, 211] (by decide +kernel) (by decide +kernel)
set_option maxRecDepth 20000 in
theorem gX2_digest_X2_isSound : GoodIn wsX2_digest (wsV RX2 236 RX2 yX2_isSound wsX2_isSound) := goodIn_app (goodIn_of _ (by decide +kernel)) ggX2_digest_X2_isSound
theorem dX2_digest_0 : decode cX2_digest 0 = .ok (.ldc2_w 219, 3) := by decide +kernel
theorem dX2_digest_3 : decode cX2_digest 3 = .ok (.lstore_n 1, 1) := by decide +kernel
theorem dX2_digest_4 : decode cX2_digest 4 = .ok (.iconst 0, 1) := by decide +kernel
theorem dX2_digest_5 : decode cX2_digest 5 = .ok (.istore_n 3, 1) := by decide +kernel
theorem dX2_digest_6 : decode cX2_digest 6 = .ok (.iload_n 3, 1) := by decide +kernel
theorem dX2_digest_7 : decode cX2_digest 7 = .ok (.iconst 4, 1) := by decide +kernel
theorem dX2_digest_8 : decode cX2_digest 8 = .ok (.if_icmp .gt 22, 3) := by decide +kernel
theorem dX2_digest_11 : decode cX2_digest 11 = .ok (.lload_n 1, 1) := by decide +kernel
theorem dX2_digest_12 : decode cX2_digest 12 = .ok (.ldc2_w 221, 3) := by decide +kernel
theorem dX2_digest_15 : decode cX2_digest 15 = .ok (.lmul, 1) := by decide +kernel
theorem dX2_digest_16 : decode cX2_digest 16 = .ok (.aload_n 0, 1) := by decide +kernel
theorem dX2_digest_17 : decode cX2_digest 17 = .ok (.iload_n 3, 1) := by decide +kernel
theorem dX2_digest_18 : decode cX2_digest 18 = .ok (.invokevirtual 223, 3) := by decide +kernel
theorem dX2_digest_21 : decode cX2_digest 21 = .ok (.i2l, 1) := by decide +kernel
theorem dX2_digest_22 : decode cX2_digest 22 = .ok (.ladd, 1) := by decide +kernel
theorem dX2_digest_23 : decode cX2_digest 23 = .ok (.lstore_n 1, 1) := by decide +kernel
theorem dX2_digest_24 : decode cX2_digest 24 = .ok (.iinc 3 1, 3) := by decide +kernel
theorem dX2_digest_27 : decode cX2_digest 27 = .ok (.goto (-21), 3) := by decide +kernel
theorem dX2_digest_30 : decode cX2_digest 30 = .ok (.iconst 0, 1) := by decide +kernel
theorem dX2_digest_31 : decode cX2_digest 31 = .ok (.istore_n 3, 1) := by decide +kernel
theorem dX2_digest_32 : decode cX2_digest 32 = .ok (.iload_n 3, 1) := by decide +kernel
theorem dX2_digest_33 : decode cX2_digest 33 = .ok (.bipush 8, 2) := by decide +kernel
theorem dX2_digest_35 : decode cX2_digest 35 = .ok (.if_icmp .ge 16, 3) := by decide +kernel
theorem dX2_digest_38 : decode cX2_digest 38 = .ok (.aload_n 0, 1) := by decide +kernel
theorem dX2_digest_39 : decode cX2_digest 39 = .ok (.lload_n 1, 1) := by decide +kernel
theorem dX2_digest_40 : decode cX2_digest 40 = .ok (.iload_n 3, 1) := by decide +kernel
theorem dX2_digest_41 : decode cX2_digest 41 = .ok (.invokevirtual 226, 3) := by decide +kernel
theorem dX2_digest_44 : decode cX2_digest 44 = .ok (.lstore_n 1, 1) := by decide +kernel
theorem dX2_digest_45 : decode cX2_digest 45 = .ok (.iinc 3 1, 3) := by decide +kernel
theorem dX2_digest_48 : decode cX2_digest 48 = .ok (.goto (-16), 3) := by decide +kernel
theorem dX2_digest_51 : decode cX2_digest 51 = .ok (.iconst 0, 1) := by decide +kernel
theorem dX2_digest_52 : decode cX2_digest 52 = .ok (.istore_n 3, 1) := by decide +kernel
theorem dX2_digest_53 : decode cX2_digest 53 = .ok (.iload_n 3, 1) := by decide +kernel
theorem dX2_digest_54 : decode cX2_digest 54 = .ok (.aload_n 0, 1) := by decide +kernel
theorem dX2_digest_55 : decode cX2_digest 55 = .ok (.getfield 16, 3) := by decide +kernel
theorem dX2_digest_58 : decode cX2_digest 58 = .ok (.invokevirtual 63, 3) := by decide +kernel
theorem dX2_digest_61 : decode cX2_digest 61 = .ok (.if_icmp .ge 27, 3) := by decide +kernel
theorem dX2_digest_64 : decode cX2_digest 64 = .ok (.lload_n 1, 1) := by decide +kernel
theorem dX2_digest_65 : decode cX2_digest 65 = .ok (.ldc2_w 221, 3) := by decide +kernel
theorem dX2_digest_68 : decode cX2_digest 68 = .ok (.lmul, 1) := by decide +kernel
theorem dX2_digest_69 : decode cX2_digest 69 = .ok (.aload_n 0, 1) := by decide +kernel
theorem dX2_digest_70 : decode cX2_digest 70 = .ok (.getfield 16, 3) := by decide +kernel
theorem dX2_digest_73 : decode cX2_digest 73 = .ok (.iload_n 3, 1) := by decide +kernel
theorem dX2_digest_74 : decode cX2_digest 74 = .ok (.bipush 36, 2) := by decide +kernel
theorem dX2_digest_76 : decode cX2_digest 76 = .ok (.invokevirtual 200, 3) := by decide +kernel
theorem dX2_digest_79 : decode cX2_digest 79 = .ok (.i2l, 1) := by decide +kernel
theorem dX2_digest_80 : decode cX2_digest 80 = .ok (.ladd, 1) := by decide +kernel
theorem dX2_digest_81 : decode cX2_digest 81 = .ok (.lstore_n 1, 1) := by decide +kernel
theorem dX2_digest_82 : decode cX2_digest 82 = .ok (.iinc 3 1, 3) := by decide +kernel
theorem dX2_digest_85 : decode cX2_digest 85 = .ok (.goto (-32), 3) := by decide +kernel
theorem dX2_digest_88 : decode cX2_digest 88 = .ok (.iconst 0, 1) := by decide +kernel
theorem dX2_digest_89 : decode cX2_digest 89 = .ok (.istore_n 3, 1) := by decide +kernel
theorem dX2_digest_90 : decode cX2_digest 90 = .ok (.iload_n 3, 1) := by decide +kernel
theorem dX2_digest_91 : decode cX2_digest 91 = .ok (.iconst 4, 1) := by decide +kernel
theorem dX2_digest_92 : decode cX2_digest 92 = .ok (.if_icmp .ge 68, 3) := by decide +kernel
theorem dX2_digest_95 : decode cX2_digest 95 = .ok (.lload_n 1, 1) := by decide +kernel
theorem dX2_digest_96 : decode cX2_digest 96 = .ok (.ldc2_w 221, 3) := by decide +kernel
theorem dX2_digest_99 : decode cX2_digest 99 = .ok (.lmul, 1) := by decide +kernel
theorem dX2_digest_100 : decode cX2_digest 100 = .ok (.aload_n 0, 1) := by decide +kernel
theorem dX2_digest_101 : decode cX2_digest 101 = .ok (.bipush 10, 2) := by decide +kernel
theorem dX2_digest_103 : decode cX2_digest 103 = .ok (.iload_n 3, 1) := by decide +kernel
theorem dX2_digest_104 : decode cX2_digest 104 = .ok (.iconst 1, 1) := by decide +kernel
theorem dX2_digest_105 : decode cX2_digest 105 = .ok (.invokevirtual 229, 3) := by decide +kernel
theorem dX2_digest_108 : decode cX2_digest 108 = .ok (.i2l, 1) := by decide +kernel
theorem dX2_digest_109 : decode cX2_digest 109 = .ok (.ladd, 1) := by decide +kernel
theorem dX2_digest_110 : decode cX2_digest 110 = .ok (.lstore_n 1, 1) := by decide +kernel
theorem dX2_digest_111 : decode cX2_digest 111 = .ok (.lload_n 1, 1) := by decide +kernel
theorem dX2_digest_112 : decode cX2_digest 112 = .ok (.ldc2_w 221, 3) := by decide +kernel
theorem dX2_digest_115 : decode cX2_digest 115 = .ok (.lmul, 1) := by decide +kernel
theorem dX2_digest_116 : decode cX2_digest 116 = .ok (.aload_n 0, 1) := by decide +kernel
theorem dX2_digest_117 : decode cX2_digest 117 = .ok (.bipush 10, 2) := by decide +kernel
theorem dX2_digest_119 : decode cX2_digest 119 = .ok (.iload_n 3, 1) := by decide +kernel
theorem dX2_digest_120 : decode cX2_digest 120 = .ok (.iconst 0, 1) := by decide +kernel
theorem dX2_digest_121 : decode cX2_digest 121 = .ok (.invokevirtual 229, 3) := by decide +kernel
theorem dX2_digest_124 : decode cX2_digest 124 = .ok (.i2l, 1) := by decide +kernel
theorem dX2_digest_125 : decode cX2_digest 125 = .ok (.ladd, 1) := by decide +kernel
theorem dX2_digest_126 : decode cX2_digest 126 = .ok (.lstore_n 1, 1) := by decide +kernel
theorem dX2_digest_127 : decode cX2_digest 127 = .ok (.aload_n 0, 1) := by decide +kernel
theorem dX2_digest_128 : decode cX2_digest 128 = .ok (.aload_n 0, 1) := by decide +kernel
theorem dX2_digest_129 : decode cX2_digest 129 = .ok (.getfield 20, 3) := by decide +kernel
theorem dX2_digest_132 : decode cX2_digest 132 = .ok (.iconst 0, 1) := by decide +kernel
theorem dX2_digest_133 : decode cX2_digest 133 = .ok (.bipush 7, 2) := by decide +kernel
theorem dX2_digest_135 : decode cX2_digest 135 = .ok (.iload_n 3, 1) := by decide +kernel
theorem dX2_digest_136 : decode cX2_digest 136 = .ok (.invokevirtual 105, 3) := by decide +kernel
theorem dX2_digest_139 : decode cX2_digest 139 = .ok (.lload_n 1, 1) := by decide +kernel
theorem dX2_digest_140 : decode cX2_digest 140 = .ok (.ldc2_w 221, 3) := by decide +kernel
theorem dX2_digest_143 : decode cX2_digest 143 = .ok (.lmul, 1) := by decide +kernel
theorem dX2_digest_144 : decode cX2_digest 144 = .ok (.aload_n 0, 1) := by decide +kernel
theorem dX2_digest_145 : decode cX2_digest 145 = .ok (.getfield 20, 3) := by decide +kernel
theorem dX2_digest_148 : decode cX2_digest 148 = .ok (.invokevirtual 63, 3) := by decide +kernel
theorem dX2_digest_151 : decode cX2_digest 151 = .ok (.i2l, 1) := by decide +kernel
theorem dX2_digest_152 : decode cX2_digest 152 = .ok (.ladd, 1) := by decide +kernel
theorem dX2_digest_153 : decode cX2_digest 153 = .ok (.lstore_n 1, 1) := by decide +kernel
theorem dX2_digest_154 : decode cX2_digest 154 = .ok (.iinc 3 1, 3) := by decide +kernel
theorem dX2_digest_157 : decode cX2_digest 157 = .ok (.goto (-67), 3) := by decide +kernel
theorem dX2_digest_160 : decode cX2_digest 160 = .ok (.lload_n 1, 1) := by decide +kernel
theorem dX2_digest_161 : decode cX2_digest 161 = .ok (.ldc2_w 221, 3) := by decide +kernel
theorem dX2_digest_164 : decode cX2_digest 164 = .ok (.lmul, 1) := by decide +kernel
theorem dX2_digest_165 : decode cX2_digest 165 = .ok (.aload_n 0, 1) := by decide +kernel
theorem dX2_digest_166 : decode cX2_digest 166 = .ok (.bipush 16, 2) := by decide +kernel
theorem dX2_digest_168 : decode cX2_digest 168 = .ok (.iconst 2, 1) := by decide +kernel
theorem dX2_digest_169 : decode cX2_digest 169 = .ok (.invokevirtual 233, 3) := by decide +kernel
theorem dX2_digest_172 : decode cX2_digest 172 = .ok (.i2l, 1) := by decide +kernel
theorem dX2_digest_173 : decode cX2_digest 173 = .ok (.ladd, 1) := by decide +kernel
theorem dX2_digest_174 : decode cX2_digest 174 = .ok (.lstore_n 1, 1) := by decide +kernel
theorem dX2_digest_175 : decode cX2_digest 175 = .ok (.lload_n 1, 1) := by decide +kernel
theorem dX2_digest_176 : decode cX2_digest 176 = .ok (.ldc2_w 221, 3) := by decide +kernel
theorem dX2_digest_179 : decode cX2_digest 179 = .ok (.lmul, 1) := by decide +kernel
theorem dX2_digest_180 : decode cX2_digest 180 = .ok (.aload_n 0, 1) := by decide +kernel
theorem dX2_digest_181 : decode cX2_digest 181 = .ok (.invokevirtual 236, 3) := by decide +kernel
theorem dX2_digest_184 : decode cX2_digest 184 = .ok (.ifCond .eq 7, 3) := by decide +kernel
theorem dX2_digest_187 : decode cX2_digest 187 = .ok (.iconst 1, 1) := by decide +kernel
theorem dX2_digest_188 : decode cX2_digest 188 = .ok (.goto 4, 3) := by decide +kernel
theorem dX2_digest_191 : decode cX2_digest 191 = .ok (.iconst 0, 1) := by decide +kernel
theorem dX2_digest_192 : decode cX2_digest 192 = .ok (.i2l, 1) := by decide +kernel
theorem dX2_digest_193 : decode cX2_digest 193 = .ok (.ladd, 1) := by decide +kernel
theorem dX2_digest_194 : decode cX2_digest 194 = .ok (.lreturn, 1) := by decide +kernel
set_option maxRecDepth 20000 in
theorem ggX2_sumOfCell_X2_highOf : GoodIn wsX2_sumOfCell wsX2_highOf := goodIn_r _ [6] (by decide +kernel) (by decide +kernel)
set_option maxRecDepth 20000 in
theorem gX2_sumOfCell_X2_highOf : GoodIn wsX2_sumOfCell (va_wsS RX2 174 yX2_highOf wsX2_highOf) := goodIn_app (goodIn_of _ (by decide +kernel)) ggX2_sumOfCell_X2_highOf
set_option maxRecDepth 20000 in
theorem ggX2_sumOfCell_X2_countOfLong : GoodIn wsX2_sumOfCell wsX2_countOfLong := goodIn_r _ [9, 10, 11, 12, 13, 14, 15, 16, 17, 18, 19, 20, 21, 22, 23, 24, 25, 26, 27, 28, 29, 30, 31, 32, 33] (by decide +kernel) (by decide +kernel)
set_option maxRecDepth 20000 in
theorem gX2_sumOfCell_X2_countOfLong : GoodIn wsX2_sumOfCell (va_wsS RX2 180 yX2_countOfLong wsX2_countOfLong) := goodIn_app (goodIn_of _ (by decide +kernel)) ggX2_sumOfCell_X2_countOfLong
set_option maxRecDepth 20000 in
theorem ggX2_sumOfCell_X2_countOfInt : GoodIn wsX2_sumOfCell wsX2_countOfInt := goodIn_r _ [36, 37, 38, 22, 39, 40, 41, 42, 43, 21, 23, 24, 44, 29, 30, 45, 46, 47] (by decide +kernel) (by decide +kernel)
set_option maxRecDepth 20000 in
theorem gX2_sumOfCell_X2_countOfInt : GoodIn wsX2_sumOfCell (va_wsS RX2 177 yX2_countOfInt wsX2_countOfInt) := goodIn_app (goodIn_of _ (by decide +kernel)) ggX2_sumOfCell_X2_countOfInt
theorem dX2_sumOfCell_0 : decode cX2_sumOfCell 0 = .ok (.aload_n 0, 1) := by decide +kernel
theorem dX2_sumOfCell_1 : decode cX2_sumOfCell 1 = .ok (.getfield 9, 3) := by decide +kernel
theorem dX2_sumOfCell_4 : decode cX2_sumOfCell 4 = .ok (.iload_n 3, 1) := by decide +kernel
theorem dX2_sumOfCell_5 : decode cX2_sumOfCell 5 = .ok (.laload, 1) := by decide +kernel
theorem dX2_sumOfCell_6 : decode cX2_sumOfCell 6 = .ok (.lstore 4, 2) := by decide +kernel
theorem dX2_sumOfCell_8 : decode cX2_sumOfCell 8 = .ok (.lload_n 1, 1) := by decide +kernel
theorem dX2_sumOfCell_9 : decode cX2_sumOfCell 9 = .ok (.ldc2_w 221, 3) := by decide +kernel
theorem dX2_sumOfCell_12 : decode cX2_sumOfCell 12 = .ok (.lmul, 1) := by decide +kernel
theorem dX2_sumOfCell_13 : decode cX2_sumOfCell 13 = .ok (.lload 4, 2) := by decide +kernel
theorem dX2_sumOfCell_15 : decode cX2_sumOfCell 15 = .ok (.invokestatic 174, 3) := by decide +kernel
theorem dX2_sumOfCell_18 : decode cX2_sumOfCell 18 = .ok (.i2l, 1) := by decide +kernel
theorem dX2_sumOfCell_19 : decode cX2_sumOfCell 19 = .ok (.ladd, 1) := by decide +kernel
theorem dX2_sumOfCell_20 : decode cX2_sumOfCell 20 = .ok (.lstore 6, 2) := by decide +kernel
theorem dX2_sumOfCell_22 : decode cX2_sumOfCell 22 = .ok (.lload 6, 2) := by decide +kernel
theorem dX2_sumOfCell_24 : decode cX2_sumOfCell 24 = .ok (.ldc2_w 221, 3) := by decide +kernel
theorem dX2_sumOfCell_27 : decode cX2_sumOfCell 27 = .ok (.lmul, 1) := by decide +kernel
theorem dX2_sumOfCell_28 : decode cX2_sumOfCell 28 = .ok (.lload 4, 2) := by decide +kernel
theorem dX2_sumOfCell_30 : decode cX2_sumOfCell 30 = .ok (.l2i, 1) := by decide +kernel
theorem dX2_sumOfCell_31 : decode cX2_sumOfCell 31 = .ok (.i2l, 1) := by decide +kernel
theorem dX2_sumOfCell_32 : decode cX2_sumOfCell 32 = .ok (.ladd, 1) := by decide +kernel
theorem dX2_sumOfCell_33 : decode cX2_sumOfCell 33 = .ok (.lstore 6, 2) := by decide +kernel
theorem dX2_sumOfCell_35 : decode cX2_sumOfCell 35 = .ok (.iconst 0, 1) := by decide +kernel
theorem dX2_sumOfCell_36 : decode cX2_sumOfCell 36 = .ok (.istore 8, 2) := by decide +kernel
theorem dX2_sumOfCell_38 : decode cX2_sumOfCell 38 = .ok (.iload 8, 2) := by decide +kernel
theorem dX2_sumOfCell_40 : decode cX2_sumOfCell 40 = .ok (.iconst 3, 1) := by decide +kernel
theorem dX2_sumOfCell_41 : decode cX2_sumOfCell 41 = .ok (.if_icmp .gt 26, 3) := by decide +kernel
theorem dX2_sumOfCell_44 : decode cX2_sumOfCell 44 = .ok (.lload 6, 2) := by decide +kernel
theorem dX2_sumOfCell_46 : decode cX2_sumOfCell 46 = .ok (.ldc2_w 221, 3) := by decide +kernel
theorem dX2_sumOfCell_49 : decode cX2_sumOfCell 49 = .ok (.lmul, 1) := by decide +kernel
theorem dX2_sumOfCell_50 : decode cX2_sumOfCell 50 = .ok (.lload 4, 2) := by decide +kernel
theorem dX2_sumOfCell_52 : decode cX2_sumOfCell 52 = .ok (.iload 8, 2) := by decide +kernel
theorem dX2_sumOfCell_54 : decode cX2_sumOfCell 54 = .ok (.invokestatic 180, 3) := by decide +kernel
theorem dX2_sumOfCell_57 : decode cX2_sumOfCell 57 = .ok (.i2l, 1) := by decide +kernel
theorem dX2_sumOfCell_58 : decode cX2_sumOfCell 58 = .ok (.ladd, 1) := by decide +kernel
theorem dX2_sumOfCell_59 : decode cX2_sumOfCell 59 = .ok (.lstore 6, 2) := by decide +kernel
theorem dX2_sumOfCell_61 : decode cX2_sumOfCell 61 = .ok (.iinc 8 1, 3) := by decide +kernel
theorem dX2_sumOfCell_64 : decode cX2_sumOfCell 64 = .ok (.goto (-26), 3) := by decide +kernel
theorem dX2_sumOfCell_67 : decode cX2_sumOfCell 67 = .ok (.iconst 0, 1) := by decide +kernel
theorem dX2_sumOfCell_68 : decode cX2_sumOfCell 68 = .ok (.istore 8, 2) := by decide +kernel
theorem dX2_sumOfCell_70 : decode cX2_sumOfCell 70 = .ok (.iload 8, 2) := by decide +kernel
theorem dX2_sumOfCell_72 : decode cX2_sumOfCell 72 = .ok (.iconst 3, 1) := by decide +kernel
theorem dX2_sumOfCell_73 : decode cX2_sumOfCell 73 = .ok (.if_icmp .gt 27, 3) := by decide +kernel
theorem dX2_sumOfCell_76 : decode cX2_sumOfCell 76 = .ok (.lload 6, 2) := by decide +kernel
theorem dX2_sumOfCell_78 : decode cX2_sumOfCell 78 = .ok (.ldc2_w 221, 3) := by decide +kernel
theorem dX2_sumOfCell_81 : decode cX2_sumOfCell 81 = .ok (.lmul, 1) := by decide +kernel
theorem dX2_sumOfCell_82 : decode cX2_sumOfCell 82 = .ok (.lload 4, 2) := by decide +kernel
theorem dX2_sumOfCell_84 : decode cX2_sumOfCell 84 = .ok (.l2i, 1) := by decide +kernel
theorem dX2_sumOfCell_85 : decode cX2_sumOfCell 85 = .ok (.iload 8, 2) := by decide +kernel
theorem dX2_sumOfCell_87 : decode cX2_sumOfCell 87 = .ok (.invokestatic 177, 3) := by decide +kernel
theorem dX2_sumOfCell_90 : decode cX2_sumOfCell 90 = .ok (.i2l, 1) := by decide +kernel
theorem dX2_sumOfCell_91 : decode cX2_sumOfCell 91 = .ok (.ladd, 1) := by decide +kernel
theorem dX2_sumOfCell_92 : decode cX2_sumOfCell 92 = .ok (.lstore 6, 2) := by decide +kernel
theorem dX2_sumOfCell_94 : decode cX2_sumOfCell 94 = .ok (.iinc 8 1, 3) := by decide +kernel
theorem dX2_sumOfCell_97 : decode cX2_sumOfCell 97 = .ok (.goto (-27), 3) := by decide +kernel
theorem dX2_sumOfCell_100 : decode cX2_sumOfCell 100 = .ok (.lload 6, 2) := by decide +kernel
theorem dX2_sumOfCell_102 : decode cX2_sumOfCell 102 = .ok (.lreturn, 1) := by decide +kernel
theorem dX2_checkCell_0 : decode cX2_checkCell 0 = .ok (.iload_n 0, 1) := by decide +kernel
theorem dX2_checkCell_1 : decode cX2_checkCell 1 = .ok (.ifCond .lt 9, 3) := by decide +kernel
theorem dX2_checkCell_4 : decode cX2_checkCell 4 = .ok (.iload_n 0, 1) := by decide +kernel
theorem dX2_checkCell_5 : decode cX2_checkCell 5 = .ok (.bipush 8, 2) := by decide +kernel
theorem dX2_checkCell_7 : decode cX2_checkCell 7 = .ok (.if_icmp .lt 13, 3) := by decide +kernel
theorem dX2_checkCell_10 : decode cX2_checkCell 10 = .ok (.new 192, 3) := by decide +kernel
theorem dX2_checkCell_13 : decode cX2_checkCell 13 = .ok (.dup, 1) := by decide +kernel
theorem dX2_checkCell_14 : decode cX2_checkCell 14 = .ok (.ldc 239, 2) := by decide +kernel
theorem dX2_checkCell_16 : decode cX2_checkCell 16 = .ok (.invokespecial 196, 3) := by decide +kernel
theorem dX2_checkCell_19 : decode cX2_checkCell 19 = .ok (.athrow, 1) := by decide +kernel
theorem dX2_checkCell_20 : decode cX2_checkCell 20 = .ok (.return_, 1) := by decide +kernel
theorem dX2_checkRadix_0 : decode cX2_checkRadix 0 = .ok (.iload_n 0, 1) := by decide +kernel
theorem dX2_checkRadix_1 : decode cX2_checkRadix 1 = .ok (.iconst 2, 1) := by decide +kernel
theorem dX2_checkRadix_2 : decode cX2_checkRadix 2 = .ok (.if_icmp .lt 9, 3) := by decide +kernel
theorem dX2_checkRadix_5 : decode cX2_checkRadix 5 = .ok (.iload_n 0, 1) := by decide +kernel
theorem dX2_checkRadix_6 : decode cX2_checkRadix 6 = .ok (.bipush 36, 2) := by decide +kernel
theorem dX2_checkRadix_8 : decode cX2_checkRadix 8 = .ok (.if_icmp .le 13, 3) := by decide +kernel
theorem dX2_checkRadix_11 : decode cX2_checkRadix 11 = .ok (.new 39, 3) := by decide +kernel
theorem dX2_checkRadix_14 : decode cX2_checkRadix 14 = .ok (.dup, 1) := by decide +kernel
theorem dX2_checkRadix_15 : decode cX2_checkRadix 15 = .ok (.ldc 241, 2) := by decide +kernel
theorem dX2_checkRadix_17 : decode cX2_checkRadix 17 = .ok (.invokespecial 43, 3) := by decide +kernel
theorem dX2_checkRadix_20 : decode cX2_checkRadix 20 = .ok (.athrow, 1) := by decide +kernel
theorem dX2_checkRadix_21 : decode cX2_checkRadix 21 = .ok (.return_, 1) := by decide +kernel
set_option maxRecDepth 20000 in
theorem ggX2_checkRadixAndKind_X2_checkRadix : GoodIn wsX2_checkRadixAndKind wsX2_checkRadix := goodIn_ca (goodIn_r _ [4, 5, 6] (by decide +kernel) (by decide +kernel)) (goodIn_sub (fun _ h => List.mem_cons_of_mem _ (List.mem_append_right _ h)) (by decide +kernel))
set_option maxRecDepth 20000 in
theorem gX2_checkRadixAndKind_X2_checkRadix : GoodIn wsX2_checkRadixAndKind (va_wsS RX2 197 yX2_checkRadix wsX2_checkRadix) := goodIn_app (goodIn_of _ (by decide +kernel)) ggX2_checkRadixAndKind_X2_checkRadix
set_option maxRecDepth 20000 in
theorem ggX2_checkRadixAndKind_X2_checkWhat : GoodIn wsX2_checkRadixAndKind wsX2_checkWhat := goodIn_ca (goodIn_r _ [9, 5, 6] (by decide +kernel) (by decide +kernel)) (goodIn_sub (fun _ h => List.mem_cons_of_mem _ (List.mem_append_right _ h)) (by decide +kernel))
set_option maxRecDepth 20000 in
theorem gX2_checkRadixAndKind_X2_checkWhat : GoodIn wsX2_checkRadixAndKind (va_wsS RX2 109 yX2_checkWhat wsX2_checkWhat) := goodIn_app (goodIn_of _ (by decide +kernel)) ggX2_checkRadixAndKind_X2_checkWhat
theorem dX2_checkRadixAndKind_0 : decode cX2_checkRadixAndKind 0 = .ok (.iload_n 0, 1) := by decide +kernel
theorem dX2_checkRadixAndKind_1 : decode cX2_checkRadixAndKind 1 = .ok (.invokestatic 197, 3) := by decide +kernel
theorem dX2_checkRadixAndKind_4 : decode cX2_checkRadixAndKind 4 = .ok (.iload_n 1, 1) := by decide +kernel
theorem dX2_checkRadixAndKind_5 : decode cX2_checkRadixAndKind 5 = .ok (.iconst 3, 1) := by decide +kernel
theorem dX2_checkRadixAndKind_6 : decode cX2_checkRadixAndKind 6 = .ok (.invokestatic 109, 3) := by decide +kernel
theorem dX2_checkRadixAndKind_9 : decode cX2_checkRadixAndKind 9 = .ok (.return_, 1) := by decide +kernel
theorem dX2_checkWhat_0 : decode cX2_checkWhat 0 = .ok (.iload_n 0, 1) := by decide +kernel
theorem dX2_checkWhat_1 : decode cX2_checkWhat 1 = .ok (.ifCond .lt 8, 3) := by decide +kernel
theorem dX2_checkWhat_4 : decode cX2_checkWhat 4 = .ok (.iload_n 0, 1) := by decide +kernel
theorem dX2_checkWhat_5 : decode cX2_checkWhat 5 = .ok (.iload_n 1, 1) := by decide +kernel
theorem dX2_checkWhat_6 : decode cX2_checkWhat 6 = .ok (.if_icmp .le 13, 3) := by decide +kernel
theorem dX2_checkWhat_9 : decode cX2_checkWhat 9 = .ok (.new 39, 3) := by decide +kernel
theorem dX2_checkWhat_12 : decode cX2_checkWhat 12 = .ok (.dup, 1) := by decide +kernel
theorem dX2_checkWhat_13 : decode cX2_checkWhat 13 = .ok (.ldc 243, 2) := by decide +kernel
theorem dX2_checkWhat_15 : decode cX2_checkWhat 15 = .ok (.invokespecial 43, 3) := by decide +kernel
theorem dX2_checkWhat_18 : decode cX2_checkWhat 18 = .ok (.athrow, 1) := by decide +kernel
theorem dX2_checkWhat_19 : decode cX2_checkWhat 19 = .ok (.return_, 1) := by decide +kernel
set_option maxRecDepth 20000 in
theorem ggX2_checkDivisor_X2_unsignedOf : GoodIn wsX2_checkDivisor wsX2_unsignedOf := goodIn_r _ [7, 8, 9, 10, 11, 12, 13, 14, 15, 16] (by decide +kernel) (by decide +kernel)
set_option maxRecDepth 20000 in
theorem gX2_checkDivisor_X2_unsignedOf : GoodIn wsX2_checkDivisor (wsV RX2 112 RX2 yX2_unsignedOf wsX2_unsignedOf) := goodIn_app (goodIn_of _ (by decide +kernel)) ggX2_checkDivisor_X2_unsignedOf
theorem dX2_checkDivisor_0 : decode cX2_checkDivisor 0 = .ok (.aload_n 0, 1) := by decide +kernel
theorem dX2_checkDivisor_1 : decode cX2_checkDivisor 1 = .ok (.iload_n 1, 1) := by decide +kernel
theorem dX2_checkDivisor_2 : decode cX2_checkDivisor 2 = .ok (.iload_n 2, 1) := by decide +kernel
theorem dX2_checkDivisor_3 : decode cX2_checkDivisor 3 = .ok (.invokevirtual 112, 3) := by decide +kernel
theorem dX2_checkDivisor_6 : decode cX2_checkDivisor 6 = .ok (.lconst 0, 1) := by decide +kernel
theorem dX2_checkDivisor_7 : decode cX2_checkDivisor 7 = .ok (.lcmp, 1) := by decide +kernel
theorem dX2_checkDivisor_8 : decode cX2_checkDivisor 8 = .ok (.ifCond .ne 13, 3) := by decide +kernel
theorem dX2_checkDivisor_11 : decode cX2_checkDivisor 11 = .ok (.new 50, 3) := by decide +kernel
theorem dX2_checkDivisor_14 : decode cX2_checkDivisor 14 = .ok (.dup, 1) := by decide +kernel
theorem dX2_checkDivisor_15 : decode cX2_checkDivisor 15 = .ok (.ldc 245, 2) := by decide +kernel
theorem dX2_checkDivisor_17 : decode cX2_checkDivisor 17 = .ok (.invokespecial 54, 3) := by decide +kernel
theorem dX2_checkDivisor_20 : decode cX2_checkDivisor 20 = .ok (.athrow, 1) := by decide +kernel
theorem dX2_checkDivisor_21 : decode cX2_checkDivisor 21 = .ok (.return_, 1) := by decide +kernel
theorem dX2_become_0 : decode cX2_become 0 = .ok (.aload_n 0, 1) := by decide +kernel
theorem dX2_become_1 : decode cX2_become 1 = .ok (.getfield 9, 3) := by decide +kernel
theorem dX2_become_4 : decode cX2_become 4 = .ok (.iload_n 1, 1) := by decide +kernel
theorem dX2_become_5 : decode cX2_become 5 = .ok (.laload, 1) := by decide +kernel
theorem dX2_become_6 : decode cX2_become 6 = .ok (.lload_n 2, 1) := by decide +kernel
theorem dX2_become_7 : decode cX2_become 7 = .ok (.lcmp, 1) := by decide +kernel
theorem dX2_become_8 : decode cX2_become 8 = .ok (.ifCond .eq 7, 3) := by decide +kernel
theorem dX2_become_11 : decode cX2_become 11 = .ok (.iconst 1, 1) := by decide +kernel
theorem dX2_become_12 : decode cX2_become 12 = .ok (.goto 4, 3) := by decide +kernel
theorem dX2_become_15 : decode cX2_become 15 = .ok (.iconst 0, 1) := by decide +kernel
theorem dX2_become_16 : decode cX2_become 16 = .ok (.istore 4, 2) := by decide +kernel
theorem dX2_become_18 : decode cX2_become 18 = .ok (.aload_n 0, 1) := by decide +kernel
theorem dX2_become_19 : decode cX2_become 19 = .ok (.getfield 9, 3) := by decide +kernel
theorem dX2_become_22 : decode cX2_become 22 = .ok (.iload_n 1, 1) := by decide +kernel
theorem dX2_become_23 : decode cX2_become 23 = .ok (.lload_n 2, 1) := by decide +kernel
theorem dX2_become_24 : decode cX2_become 24 = .ok (.lastore, 1) := by decide +kernel
theorem dX2_become_25 : decode cX2_become 25 = .ok (.iload 4, 2) := by decide +kernel
theorem dX2_become_27 : decode cX2_become 27 = .ok (.ireturn, 1) := by decide +kernel
theorem dX2_setting_0 : decode cX2_setting 0 = .ok (.iload_n 2, 1) := by decide +kernel
theorem dX2_setting_1 : decode cX2_setting 1 = .ok (.ifCond .eq 9, 3) := by decide +kernel
theorem dX2_setting_4 : decode cX2_setting 4 = .ok (.lload_n 0, 1) := by decide +kernel
theorem dX2_setting_5 : decode cX2_setting 5 = .ok (.l2i, 1) := by decide +kernel
theorem dX2_setting_6 : decode cX2_setting 6 = .ok (.i2l, 1) := by decide +kernel
theorem dX2_setting_7 : decode cX2_setting 7 = .ok (.goto 4, 3) := by decide +kernel
theorem dX2_setting_10 : decode cX2_setting 10 = .ok (.lload_n 0, 1) := by decide +kernel
theorem dX2_setting_11 : decode cX2_setting 11 = .ok (.lreturn, 1) := by decide +kernel
set_option maxRecDepth 20000 in
theorem ggX2_signedOf_X2_setting : GoodIn wsX2_signedOf wsX2_setting := goodIn_r _ [5] (by decide +kernel) (by decide +kernel)
set_option maxRecDepth 20000 in
theorem gX2_signedOf_X2_setting : GoodIn wsX2_signedOf (va_wsS RX2 98 yX2_setting wsX2_setting) := goodIn_app (goodIn_of _ (by decide +kernel)) ggX2_signedOf_X2_setting
theorem dX2_signedOf_0 : decode cX2_signedOf 0 = .ok (.aload_n 0, 1) := by decide +kernel
theorem dX2_signedOf_1 : decode cX2_signedOf 1 = .ok (.getfield 9, 3) := by decide +kernel
theorem dX2_signedOf_4 : decode cX2_signedOf 4 = .ok (.iload_n 1, 1) := by decide +kernel
theorem dX2_signedOf_5 : decode cX2_signedOf 5 = .ok (.laload, 1) := by decide +kernel
theorem dX2_signedOf_6 : decode cX2_signedOf 6 = .ok (.iload_n 2, 1) := by decide +kernel
theorem dX2_signedOf_7 : decode cX2_signedOf 7 = .ok (.invokestatic 98, 3) := by decide +kernel
theorem dX2_signedOf_10 : decode cX2_signedOf 10 = .ok (.lreturn, 1) := by decide +kernel
theorem dX2_unsignedOf_0 : decode cX2_unsignedOf 0 = .ok (.iload_n 2, 1) := by decide +kernel
theorem dX2_unsignedOf_1 : decode cX2_unsignedOf 1 = .ok (.ifCond .eq 16, 3) := by decide +kernel
theorem dX2_unsignedOf_4 : decode cX2_unsignedOf 4 = .ok (.aload_n 0, 1) := by decide +kernel
theorem dX2_unsignedOf_5 : decode cX2_unsignedOf 5 = .ok (.getfield 9, 3) := by decide +kernel
theorem dX2_unsignedOf_8 : decode cX2_unsignedOf 8 = .ok (.iload_n 1, 1) := by decide +kernel
theorem dX2_unsignedOf_9 : decode cX2_unsignedOf 9 = .ok (.laload, 1) := by decide +kernel
theorem dX2_unsignedOf_10 : decode cX2_unsignedOf 10 = .ok (.ldc2_w 27, 3) := by decide +kernel
theorem dX2_unsignedOf_13 : decode cX2_unsignedOf 13 = .ok (.land, 1) := by decide +kernel
theorem dX2_unsignedOf_14 : decode cX2_unsignedOf 14 = .ok (.goto 9, 3) := by decide +kernel
theorem dX2_unsignedOf_17 : decode cX2_unsignedOf 17 = .ok (.aload_n 0, 1) := by decide +kernel
theorem dX2_unsignedOf_18 : decode cX2_unsignedOf 18 = .ok (.getfield 9, 3) := by decide +kernel
theorem dX2_unsignedOf_21 : decode cX2_unsignedOf 21 = .ok (.iload_n 1, 1) := by decide +kernel
theorem dX2_unsignedOf_22 : decode cX2_unsignedOf 22 = .ok (.laload, 1) := by decide +kernel
theorem dX2_unsignedOf_23 : decode cX2_unsignedOf 23 = .ok (.lreturn, 1) := by decide +kernel
theorem dX2_highOf_0 : decode cX2_highOf 0 = .ok (.lload_n 0, 1) := by decide +kernel
theorem dX2_highOf_1 : decode cX2_highOf 1 = .ok (.bipush 32, 2) := by decide +kernel
theorem dX2_highOf_3 : decode cX2_highOf 3 = .ok (.lshr, 1) := by decide +kernel
theorem dX2_highOf_4 : decode cX2_highOf 4 = .ok (.l2i, 1) := by decide +kernel
theorem dX2_highOf_5 : decode cX2_highOf 5 = .ok (.ireturn, 1) := by decide +kernel
theorem dX2_isOfInt_0 : decode cX2_isOfInt 0 = .ok (.iload_n 0, 1) := by decide +kernel
theorem dX2_isOfInt_1 : decode cX2_isOfInt 1 = .ok (.ifCond .eq 8, 3) := by decide +kernel
theorem dX2_isOfInt_4 : decode cX2_isOfInt 4 = .ok (.iload_n 0, 1) := by decide +kernel
theorem dX2_isOfInt_5 : decode cX2_isOfInt 5 = .ok (.iconst 1, 1) := by decide +kernel
theorem dX2_isOfInt_6 : decode cX2_isOfInt 6 = .ok (.if_icmp .ne 7, 3) := by decide +kernel
theorem dX2_isOfInt_9 : decode cX2_isOfInt 9 = .ok (.iconst 1, 1) := by decide +kernel
theorem dX2_isOfInt_10 : decode cX2_isOfInt 10 = .ok (.goto 4, 3) := by decide +kernel
theorem dX2_isOfInt_13 : decode cX2_isOfInt 13 = .ok (.iconst 0, 1) := by decide +kernel
theorem dX2_isOfInt_14 : decode cX2_isOfInt 14 = .ok (.ireturn, 1) := by decide +kernel
theorem dX2_isSigned_0 : decode cX2_isSigned 0 = .ok (.iload_n 0, 1) := by decide +kernel
theorem dX2_isSigned_1 : decode cX2_isSigned 1 = .ok (.ifCond .eq 8, 3) := by decide +kernel
theorem dX2_isSigned_4 : decode cX2_isSigned 4 = .ok (.iload_n 0, 1) := by decide +kernel
theorem dX2_isSigned_5 : decode cX2_isSigned 5 = .ok (.iconst 2, 1) := by decide +kernel
theorem dX2_isSigned_6 : decode cX2_isSigned 6 = .ok (.if_icmp .ne 7, 3) := by decide +kernel
theorem dX2_isSigned_9 : decode cX2_isSigned 9 = .ok (.iconst 1, 1) := by decide +kernel
theorem dX2_isSigned_10 : decode cX2_isSigned 10 = .ok (.goto 4, 3) := by decide +kernel
theorem dX2_isSigned_13 : decode cX2_isSigned 13 = .ok (.iconst 0, 1) := by decide +kernel
theorem dX2_isSigned_14 : decode cX2_isSigned 14 = .ok (.ireturn, 1) := by decide +kernel
set_option maxRecDepth 20000 in
theorem ggX2_isSameOf_X2_isOfInt : GoodIn wsX2_isSameOf wsX2_isOfInt := goodIn_r _ [4] (by decide +kernel) (by decide +kernel)
set_option maxRecDepth 20000 in
theorem gX2_isSameOf_X2_isOfInt : GoodIn wsX2_isSameOf (va_wsS RX2 94 yX2_isOfInt wsX2_isOfInt) := goodIn_app (goodIn_of _ (by decide +kernel)) ggX2_isSameOf_X2_isOfInt
set_option maxRecDepth 20000 in
theorem ggX2_isSameOf_X2_setting : GoodIn wsX2_isSameOf wsX2_setting := goodIn_r _ [7] (by decide +kernel) (by decide +kernel)
set_option maxRecDepth 20000 in
theorem gX2_isSameOf_X2_setting : GoodIn wsX2_isSameOf (va_wsS RX2 98 yX2_setting wsX2_setting) := goodIn_app (goodIn_of _ (by decide +kernel)) ggX2_isSameOf_X2_setting
theorem dX2_isSameOf_0 : decode cX2_isSameOf 0 = .ok (.lload_n 1, 1) := by decide +kernel
theorem dX2_isSameOf_1 : decode cX2_isSameOf 1 = .ok (.iload_n 0, 1) := by decide +kernel
theorem dX2_isSameOf_2 : decode cX2_isSameOf 2 = .ok (.invokestatic 94, 3) := by decide +kernel
theorem dX2_isSameOf_5 : decode cX2_isSameOf 5 = .ok (.invokestatic 98, 3) := by decide +kernel
theorem dX2_isSameOf_8 : decode cX2_isSameOf 8 = .ok (.lload_n 3, 1) := by decide +kernel
theorem dX2_isSameOf_9 : decode cX2_isSameOf 9 = .ok (.iload_n 0, 1) := by decide +kernel
theorem dX2_isSameOf_10 : decode cX2_isSameOf 10 = .ok (.invokestatic 94, 3) := by decide +kernel
theorem dX2_isSameOf_13 : decode cX2_isSameOf 13 = .ok (.invokestatic 98, 3) := by decide +kernel
theorem dX2_isSameOf_16 : decode cX2_isSameOf 16 = .ok (.lcmp, 1) := by decide +kernel
theorem dX2_isSameOf_17 : decode cX2_isSameOf 17 = .ok (.ifCond .ne 7, 3) := by decide +kernel
theorem dX2_isSameOf_20 : decode cX2_isSameOf 20 = .ok (.iconst 1, 1) := by decide +kernel
theorem dX2_isSameOf_21 : decode cX2_isSameOf 21 = .ok (.goto 4, 3) := by decide +kernel
theorem dX2_isSameOf_24 : decode cX2_isSameOf 24 = .ok (.iconst 0, 1) := by decide +kernel
theorem dX2_isSameOf_25 : decode cX2_isSameOf 25 = .ok (.ireturn, 1) := by decide +kernel
set_option maxRecDepth 20000 in
theorem ggX2_tellInto_X2_isOfInt : GoodIn wsX2_tellInto wsX2_isOfInt := goodIn_r _ [4] (by decide +kernel) (by decide +kernel)
set_option maxRecDepth 20000 in
theorem gX2_tellInto_X2_isOfInt : GoodIn wsX2_tellInto (va_wsS RX2 94 yX2_isOfInt wsX2_isOfInt) := goodIn_app (goodIn_of _ (by decide +kernel)) ggX2_tellInto_X2_isOfInt
set_option maxRecDepth 20000 in
theorem ggX2_tellInto_X2_isSigned : GoodIn wsX2_tellInto wsX2_isSigned := goodIn_r _ [7] (by decide +kernel) (by decide +kernel)
set_option maxRecDepth 20000 in
theorem gX2_tellInto_X2_isSigned : GoodIn wsX2_tellInto (va_wsS RX2 247 yX2_isSigned wsX2_isSigned) := goodIn_app (goodIn_of _ (by decide +kernel)) ggX2_tellInto_X2_isSigned
set_option maxRecDepth 20000 in
theorem ggX2_tellInto_X2_signedOf : GoodIn wsX2_tellInto wsX2_signedOf := goodIn_r _ [11, 12, 13, 14, 3, 15, 47, 48, 49, 50, 51, 52, 53] (by decide +kernel) (by decide +kernel)
set_option maxRecDepth 20000 in
theorem gX2_tellInto_X2_signedOf : GoodIn wsX2_tellInto (wsV RX2 160 RX2 yX2_signedOf wsX2_signedOf) := goodIn_app (goodIn_of _ (by decide +kernel)) ggX2_tellInto_X2_signedOf
set_option maxRecDepth 20000 in
theorem ggX2_tellInto_X2_unsignedOf : GoodIn wsX2_tellInto wsX2_unsignedOf := goodIn_r _ [19, 12, 20, 47, 48, 49, 50, 51, 52, 53] (by decide +kernel) (by decide +kernel)
set_option maxRecDepth 20000 in
theorem gX2_tellInto_X2_unsignedOf : GoodIn wsX2_tellInto (wsV RX2 112 RX2 yX2_unsignedOf wsX2_unsignedOf) := goodIn_app (goodIn_of _ (by decide +kernel)) ggX2_tellInto_X2_unsignedOf
set_option maxRecDepth 20000 in
theorem ggX2_tellInto_X0_tell : GoodIn wsX2_tellInto wsX0_tell := goodIn_r _ [25, 26, 27, 28, 29, 30, 31, 32, 33, 34, 35, 36, 24, 37, 38, 39, 40, 41, 42, 43, 44, 45, 46, 54, 55] (by decide +kernel) (by decide +kernel)
set_option maxRecDepth 20000 in
theorem gX2_tellInto_X0_tell : GoodIn wsX2_tellInto (wsV RX2 120 RX0 yX0_tell wsX0_tell) := goodIn_app (goodIn_of _ (by decide +kernel)) ggX2_tellInto_X0_tell
theorem dX2_tellInto_0 : decode cX2_tellInto 0 = .ok (.iload 4, 2) := by decide +kernel
theorem dX2_tellInto_2 : decode cX2_tellInto 2 = .ok (.invokestatic 94, 3) := by decide +kernel
theorem dX2_tellInto_5 : decode cX2_tellInto 5 = .ok (.istore 5, 2) := by decide +kernel
theorem dX2_tellInto_7 : decode cX2_tellInto 7 = .ok (.iload 4, 2) := by decide +kernel
theorem dX2_tellInto_9 : decode cX2_tellInto 9 = .ok (.invokestatic 247, 3) := by decide +kernel
theorem dX2_tellInto_12 : decode cX2_tellInto 12 = .ok (.istore 6, 2) := by decide +kernel
theorem dX2_tellInto_14 : decode cX2_tellInto 14 = .ok (.aload_n 1, 1) := by decide +kernel
theorem dX2_tellInto_15 : decode cX2_tellInto 15 = .ok (.iload 6, 2) := by decide +kernel
theorem dX2_tellInto_17 : decode cX2_tellInto 17 = .ok (.ifCond .eq 13, 3) := by decide +kernel
theorem dX2_tellInto_20 : decode cX2_tellInto 20 = .ok (.aload_n 0, 1) := by decide +kernel
theorem dX2_tellInto_21 : decode cX2_tellInto 21 = .ok (.iload_n 2, 1) := by decide +kernel
theorem dX2_tellInto_22 : decode cX2_tellInto 22 = .ok (.iload 5, 2) := by decide +kernel
theorem dX2_tellInto_24 : decode cX2_tellInto 24 = .ok (.invokevirtual 160, 3) := by decide +kernel
theorem dX2_tellInto_27 : decode cX2_tellInto 27 = .ok (.goto 10, 3) := by decide +kernel
theorem dX2_tellInto_30 : decode cX2_tellInto 30 = .ok (.aload_n 0, 1) := by decide +kernel
theorem dX2_tellInto_31 : decode cX2_tellInto 31 = .ok (.iload_n 2, 1) := by decide +kernel
theorem dX2_tellInto_32 : decode cX2_tellInto 32 = .ok (.iload 5, 2) := by decide +kernel
theorem dX2_tellInto_34 : decode cX2_tellInto 34 = .ok (.invokevirtual 112, 3) := by decide +kernel
theorem dX2_tellInto_37 : decode cX2_tellInto 37 = .ok (.iload_n 3, 1) := by decide +kernel
theorem dX2_tellInto_38 : decode cX2_tellInto 38 = .ok (.iload 6, 2) := by decide +kernel
theorem dX2_tellInto_40 : decode cX2_tellInto 40 = .ok (.invokevirtual 120, 3) := by decide +kernel
theorem dX2_tellInto_43 : decode cX2_tellInto 43 = .ok (.return_, 1) := by decide +kernel
theorem dX2_radixOfBase_0 : decode cX2_radixOfBase 0 = .ok (.iload_n 0, 1) := by decide +kernel
theorem dX2_radixOfBase_1 : decode cX2_radixOfBase 1 = .ok (.ifCond .ne 7, 3) := by decide +kernel
theorem dX2_radixOfBase_4 : decode cX2_radixOfBase 4 = .ok (.iconst 2, 1) := by decide +kernel
theorem dX2_radixOfBase_5 : decode cX2_radixOfBase 5 = .ok (.goto 15, 3) := by decide +kernel
theorem dX2_radixOfBase_8 : decode cX2_radixOfBase 8 = .ok (.iload_n 0, 1) := by decide +kernel
theorem dX2_radixOfBase_9 : decode cX2_radixOfBase 9 = .ok (.iconst 1, 1) := by decide +kernel
theorem dX2_radixOfBase_10 : decode cX2_radixOfBase 10 = .ok (.if_icmp .ne 8, 3) := by decide +kernel
theorem dX2_radixOfBase_13 : decode cX2_radixOfBase 13 = .ok (.bipush 8, 2) := by decide +kernel
theorem dX2_radixOfBase_15 : decode cX2_radixOfBase 15 = .ok (.goto 5, 3) := by decide +kernel
theorem dX2_radixOfBase_18 : decode cX2_radixOfBase 18 = .ok (.bipush 16, 2) := by decide +kernel
theorem dX2_radixOfBase_20 : decode cX2_radixOfBase 20 = .ok (.ireturn, 1) := by decide +kernel
set_option maxRecDepth 20000 in
theorem ggX2_countOfInt_J6_bitCount_0f7a4 : GoodIn wsX2_countOfInt wsJ6_bitCount_0f7a4 := goodIn_r _ [4, 5, 6, 7] (by decide +kernel) (by decide +kernel)
set_option maxRecDepth 20000 in
theorem gX2_countOfInt_J6_bitCount_0f7a4 : GoodIn wsX2_countOfInt (va_wsS RX2 217 yJ6_bitCount_0f7a4 wsJ6_bitCount_0f7a4) := goodIn_app (goodIn_of _ (by decide +kernel)) ggX2_countOfInt_J6_bitCount_0f7a4
set_option maxRecDepth 20000 in
theorem ggX2_countOfInt_J6_numberOfLeadingZeros_0f7a4 : GoodIn wsX2_countOfInt wsJ6_numberOfLeadingZeros_0f7a4 := goodIn_r _ [10, 11] (by decide +kernel) (by decide +kernel)
set_option maxRecDepth 20000 in
theorem gX2_countOfInt_J6_numberOfLeadingZeros_0f7a4 : GoodIn wsX2_countOfInt (va_wsS RX2 250 yJ6_numberOfLeadingZeros_0f7a4 wsJ6_numberOfLeadingZeros_0f7a4) := goodIn_app (goodIn_of _ (by decide +kernel)) ggX2_countOfInt_J6_numberOfLeadingZeros_0f7a4
set_option maxRecDepth 20000 in
theorem ggX2_countOfInt_J6_numberOfTrailingZeros_0f7a4 : GoodIn wsX2_countOfInt wsJ6_numberOfTrailingZeros_0f7a4 := goodIn_r _ [14, 11] (by decide +kernel) (by decide +kernel)
set_option maxRecDepth 20000 in
theorem gX2_countOfInt_J6_numberOfTrailingZeros_0f7a4 : GoodIn wsX2_countOfInt (va_wsS RX2 252 yJ6_numberOfTrailingZeros_0f7a4 wsJ6_numberOfTrailingZeros_0f7a4) := goodIn_app (goodIn_of _ (by decide +kernel)) ggX2_countOfInt_J6_numberOfTrailingZeros_0f7a4
set_option maxRecDepth 20000 in
theorem ggX2_countOfInt_J6_signum_0f7a4 : GoodIn wsX2_countOfInt wsJ6_signum_0f7a4 := goodIn_r _ [17] (by decide +kernel) (by decide +kernel)
set_option maxRecDepth 20000 in
theorem gX2_countOfInt_J6_signum_0f7a4 : GoodIn wsX2_countOfInt (va_wsS RX2 254 yJ6_signum_0f7a4 wsJ6_signum_0f7a4) := goodIn_app (goodIn_of _ (by decide +kernel)) ggX2_countOfInt_J6_signum_0f7a4
theorem dX2_countOfInt_0 : decode cX2_countOfInt 0 = .ok (.iload_n 1, 1) := by decide +kernel
theorem dX2_countOfInt_1 : decode cX2_countOfInt 1 = .ok (.tableswitch 42 0 2 #[27, 32, 37], 27) := by decide +kernel
theorem dX2_countOfInt_28 : decode cX2_countOfInt 28 = .ok (.iload_n 0, 1) := by decide +kernel
theorem dX2_countOfInt_29 : decode cX2_countOfInt 29 = .ok (.invokestatic 217, 3) := by decide +kernel
theorem dX2_countOfInt_32 : decode cX2_countOfInt 32 = .ok (.ireturn, 1) := by decide +kernel
theorem dX2_countOfInt_33 : decode cX2_countOfInt 33 = .ok (.iload_n 0, 1) := by decide +kernel
theorem dX2_countOfInt_34 : decode cX2_countOfInt 34 = .ok (.invokestatic 250, 3) := by decide +kernel
theorem dX2_countOfInt_37 : decode cX2_countOfInt 37 = .ok (.ireturn, 1) := by decide +kernel
theorem dX2_countOfInt_38 : decode cX2_countOfInt 38 = .ok (.iload_n 0, 1) := by decide +kernel
theorem dX2_countOfInt_39 : decode cX2_countOfInt 39 = .ok (.invokestatic 252, 3) := by decide +kernel
theorem dX2_countOfInt_42 : decode cX2_countOfInt 42 = .ok (.ireturn, 1) := by decide +kernel
theorem dX2_countOfInt_43 : decode cX2_countOfInt 43 = .ok (.iload_n 0, 1) := by decide +kernel
theorem dX2_countOfInt_44 : decode cX2_countOfInt 44 = .ok (.invokestatic 254, 3) := by decide +kernel
theorem dX2_countOfInt_47 : decode cX2_countOfInt 47 = .ok (.ireturn, 1) := by decide +kernel
set_option maxRecDepth 20000 in
theorem ggX2_countOfLong_J13_bitCount_95d88 : GoodIn wsX2_countOfLong wsJ13_bitCount_95d88 := goodIn_r _ [4, 5, 6, 7] (by decide +kernel) (by decide +kernel)
set_option maxRecDepth 20000 in
theorem gX2_countOfLong_J13_bitCount_95d88 : GoodIn wsX2_countOfLong (va_wsS RX2 29 yJ13_bitCount_95d88 wsJ13_bitCount_95d88) := goodIn_app (goodIn_of _ (by decide +kernel)) ggX2_countOfLong_J13_bitCount_95d88
set_option maxRecDepth 20000 in
theorem ggX2_countOfLong_J13_numberOfLeadingZeros_95d88 : GoodIn wsX2_countOfLong wsJ13_numberOfLeadingZeros_95d88 := goodIn_r _ [10, 11, 12, 13, 14, 15] (by decide +kernel) (by decide +kernel)
set_option maxRecDepth 20000 in
theorem gX2_countOfLong_J13_numberOfLeadingZeros_95d88 : GoodIn wsX2_countOfLong (va_wsS RX2 154 yJ13_numberOfLeadingZeros_95d88 wsJ13_numberOfLeadingZeros_95d88) := goodIn_app (goodIn_of _ (by decide +kernel)) ggX2_countOfLong_J13_numberOfLeadingZeros_95d88
set_option maxRecDepth 20000 in
theorem ggX2_countOfLong_J13_numberOfTrailingZeros_95d88 : GoodIn wsX2_countOfLong wsJ13_numberOfTrailingZeros_95d88 := goodIn_r _ [18, 19, 20, 13, 21, 15] (by decide +kernel) (by decide +kernel)
set_option maxRecDepth 20000 in
theorem gX2_countOfLong_J13_numberOfTrailingZeros_95d88 : GoodIn wsX2_countOfLong (va_wsS RX2 157 yJ13_numberOfTrailingZeros_95d88 wsJ13_numberOfTrailingZeros_95d88) := goodIn_app (goodIn_of _ (by decide +kernel)) ggX2_countOfLong_J13_numberOfTrailingZeros_95d88
set_option maxRecDepth 20000 in
theorem ggX2_countOfLong_J13_signum_95d88 : GoodIn wsX2_countOfLong wsJ13_signum_95d88 := goodIn_r _ [24] (by decide +kernel) (by decide +kernel)
set_option maxRecDepth 20000 in
theorem gX2_countOfLong_J13_signum_95d88 : GoodIn wsX2_countOfLong (va_wsS RX2 257 yJ13_signum_95d88 wsJ13_signum_95d88) := goodIn_app (goodIn_of _ (by decide +kernel)) ggX2_countOfLong_J13_signum_95d88
theorem dX2_countOfLong_0 : decode cX2_countOfLong 0 = .ok (.iload_n 2, 1) := by decide +kernel
theorem dX2_countOfLong_1 : decode cX2_countOfLong 1 = .ok (.tableswitch 42 0 2 #[27, 32, 37], 27) := by decide +kernel
theorem dX2_countOfLong_28 : decode cX2_countOfLong 28 = .ok (.lload_n 0, 1) := by decide +kernel
theorem dX2_countOfLong_29 : decode cX2_countOfLong 29 = .ok (.invokestatic 29, 3) := by decide +kernel
theorem dX2_countOfLong_32 : decode cX2_countOfLong 32 = .ok (.ireturn, 1) := by decide +kernel
theorem dX2_countOfLong_33 : decode cX2_countOfLong 33 = .ok (.lload_n 0, 1) := by decide +kernel
theorem dX2_countOfLong_34 : decode cX2_countOfLong 34 = .ok (.invokestatic 154, 3) := by decide +kernel
theorem dX2_countOfLong_37 : decode cX2_countOfLong 37 = .ok (.ireturn, 1) := by decide +kernel
theorem dX2_countOfLong_38 : decode cX2_countOfLong 38 = .ok (.lload_n 0, 1) := by decide +kernel
theorem dX2_countOfLong_39 : decode cX2_countOfLong 39 = .ok (.invokestatic 157, 3) := by decide +kernel
theorem dX2_countOfLong_42 : decode cX2_countOfLong 42 = .ok (.ireturn, 1) := by decide +kernel
theorem dX2_countOfLong_43 : decode cX2_countOfLong 43 = .ok (.lload_n 0, 1) := by decide +kernel
theorem dX2_countOfLong_44 : decode cX2_countOfLong 44 = .ok (.invokestatic 257, 3) := by decide +kernel
theorem dX2_countOfLong_47 : decode cX2_countOfLong 47 = .ok (.ireturn, 1) := by decide +kernel
set_option maxRecDepth 20000 in
theorem ggX2_isReadBack_X2_tellInto : GoodIn wsX2_isReadBack wsX2_tellInto := goodIn_r _ [7, 8, 9, 6, 10, 11, 12, 13, 14, 15, 16, 17, 2, 18, 19, 20, 21, 22, 23, 24, 25, 26, 27, 28, 29, 30, 31, 32, 33, 34, 35, 36, 37, 38, 39, 40, 41, 42, 43, 44, 45, 46, 47, 48, 49, 50, 51, 92, 93, 94, 95, 96, 97, 98, 99, 100] (by decide +kernel) (by decide +kernel)
set_option maxRecDepth 20000 in
theorem gX2_isReadBack_X2_tellInto : GoodIn wsX2_isReadBack (wsV RX2 105 RX2 yX2_tellInto wsX2_tellInto) := goodIn_app (goodIn_of _ (by decide +kernel)) ggX2_isReadBack_X2_tellInto
set_option maxRecDepth 20000 in
theorem ggX2_isReadBack_X0_isNumberOf : GoodIn wsX2_isReadBack wsX0_isNumberOf := goodIn_r _ [55, 31, 56, 57, 58, 29, 59, 47, 12, 6, 13, 60, 61, 62, 63, 64, 65, 66, 67, 68, 69, 70, 71, 72, 73, 74, 75, 76, 32, 33, 34, 35, 36, 37, 38, 39, 77, 78, 79, 80, 81, 82, 83, 84, 99, 100] (by decide +kernel) (by decide +kernel)
set_option maxRecDepth 20000 in
theorem gX2_isReadBack_X0_isNumberOf : GoodIn wsX2_isReadBack (wsV RX2 83 RX0 yX0_isNumberOf wsX0_isNumberOf) := goodIn_app (goodIn_of _ (by decide +kernel)) ggX2_isReadBack_X0_isNumberOf
set_option maxRecDepth 20000 in
theorem ggX2_isReadBack_X0_numberHeld : GoodIn wsX2_isReadBack wsX0_numberHeld := goodIn_r _ [88, 31, 60, 61, 62, 29, 63, 56, 57, 58, 59, 47, 77, 78, 79, 80, 81, 82, 83, 99, 100] (by decide +kernel) (by decide +kernel)
set_option maxRecDepth 20000 in
theorem gX2_isReadBack_X0_numberHeld : GoodIn wsX2_isReadBack (wsV RX2 90 RX0 yX0_numberHeld wsX0_numberHeld) := goodIn_app (goodIn_of _ (by decide +kernel)) ggX2_isReadBack_X0_numberHeld
set_option maxRecDepth 20000 in
theorem ggX2_isReadBack_X2_isSameOf : GoodIn wsX2_isReadBack wsX2_isSameOf := goodIn_r _ [91, 8, 9, 6, 10, 18, 19, 20] (by decide +kernel) (by decide +kernel)
set_option maxRecDepth 20000 in
theorem gX2_isReadBack_X2_isSameOf : GoodIn wsX2_isReadBack (va_wsS RX2 203 yX2_isSameOf wsX2_isSameOf) := goodIn_app (goodIn_of _ (by decide +kernel)) ggX2_isReadBack_X2_isSameOf
theorem dX2_isReadBack_0 : decode cX2_isReadBack 0 = .ok (.iconst 2, 1) := by decide +kernel
theorem dX2_isReadBack_1 : decode cX2_isReadBack 1 = .ok (.istore_n 2, 1) := by decide +kernel
theorem dX2_isReadBack_2 : decode cX2_isReadBack 2 = .ok (.iload_n 2, 1) := by decide +kernel
theorem dX2_isReadBack_3 : decode cX2_isReadBack 3 = .ok (.bipush 36, 2) := by decide +kernel
theorem dX2_isReadBack_5 : decode cX2_isReadBack 5 = .ok (.if_icmp .gt 68, 3) := by decide +kernel
theorem dX2_isReadBack_8 : decode cX2_isReadBack 8 = .ok (.iconst 0, 1) := by decide +kernel
theorem dX2_isReadBack_9 : decode cX2_isReadBack 9 = .ok (.istore_n 3, 1) := by decide +kernel
theorem dX2_isReadBack_10 : decode cX2_isReadBack 10 = .ok (.iload_n 3, 1) := by decide +kernel
theorem dX2_isReadBack_11 : decode cX2_isReadBack 11 = .ok (.iconst 4, 1) := by decide +kernel
theorem dX2_isReadBack_12 : decode cX2_isReadBack 12 = .ok (.if_icmp .ge 55, 3) := by decide +kernel
theorem dX2_isReadBack_15 : decode cX2_isReadBack 15 = .ok (.aload_n 0, 1) := by decide +kernel
theorem dX2_isReadBack_16 : decode cX2_isReadBack 16 = .ok (.aload_n 0, 1) := by decide +kernel
theorem dX2_isReadBack_17 : decode cX2_isReadBack 17 = .ok (.getfield 20, 3) := by decide +kernel
theorem dX2_isReadBack_20 : decode cX2_isReadBack 20 = .ok (.iload_n 1, 1) := by decide +kernel
theorem dX2_isReadBack_21 : decode cX2_isReadBack 21 = .ok (.iload_n 2, 1) := by decide +kernel
theorem dX2_isReadBack_22 : decode cX2_isReadBack 22 = .ok (.iload_n 3, 1) := by decide +kernel
theorem dX2_isReadBack_23 : decode cX2_isReadBack 23 = .ok (.invokevirtual 105, 3) := by decide +kernel
theorem dX2_isReadBack_26 : decode cX2_isReadBack 26 = .ok (.aload_n 0, 1) := by decide +kernel
theorem dX2_isReadBack_27 : decode cX2_isReadBack 27 = .ok (.getfield 20, 3) := by decide +kernel
theorem dX2_isReadBack_30 : decode cX2_isReadBack 30 = .ok (.iload_n 2, 1) := by decide +kernel
theorem dX2_isReadBack_31 : decode cX2_isReadBack 31 = .ok (.iload_n 3, 1) := by decide +kernel
theorem dX2_isReadBack_32 : decode cX2_isReadBack 32 = .ok (.invokevirtual 83, 3) := by decide +kernel
theorem dX2_isReadBack_35 : decode cX2_isReadBack 35 = .ok (.ifCond .eq 24, 3) := by decide +kernel
theorem dX2_isReadBack_38 : decode cX2_isReadBack 38 = .ok (.iload_n 3, 1) := by decide +kernel
theorem dX2_isReadBack_39 : decode cX2_isReadBack 39 = .ok (.aload_n 0, 1) := by decide +kernel
theorem dX2_isReadBack_40 : decode cX2_isReadBack 40 = .ok (.getfield 9, 3) := by decide +kernel
theorem dX2_isReadBack_43 : decode cX2_isReadBack 43 = .ok (.iload_n 1, 1) := by decide +kernel
theorem dX2_isReadBack_44 : decode cX2_isReadBack 44 = .ok (.laload, 1) := by decide +kernel
theorem dX2_isReadBack_45 : decode cX2_isReadBack 45 = .ok (.aload_n 0, 1) := by decide +kernel
theorem dX2_isReadBack_46 : decode cX2_isReadBack 46 = .ok (.getfield 20, 3) := by decide +kernel
theorem dX2_isReadBack_49 : decode cX2_isReadBack 49 = .ok (.iload_n 2, 1) := by decide +kernel
theorem dX2_isReadBack_50 : decode cX2_isReadBack 50 = .ok (.invokevirtual 90, 3) := by decide +kernel
theorem dX2_isReadBack_53 : decode cX2_isReadBack 53 = .ok (.invokestatic 203, 3) := by decide +kernel
theorem dX2_isReadBack_56 : decode cX2_isReadBack 56 = .ok (.ifCond .ne 5, 3) := by decide +kernel
theorem dX2_isReadBack_59 : decode cX2_isReadBack 59 = .ok (.iconst 0, 1) := by decide +kernel
theorem dX2_isReadBack_60 : decode cX2_isReadBack 60 = .ok (.ireturn, 1) := by decide +kernel
theorem dX2_isReadBack_61 : decode cX2_isReadBack 61 = .ok (.iinc 3 1, 3) := by decide +kernel
theorem dX2_isReadBack_64 : decode cX2_isReadBack 64 = .ok (.goto (-54), 3) := by decide +kernel
theorem dX2_isReadBack_67 : decode cX2_isReadBack 67 = .ok (.iinc 2 1, 3) := by decide +kernel
theorem dX2_isReadBack_70 : decode cX2_isReadBack 70 = .ok (.goto (-68), 3) := by decide +kernel
theorem dX2_isReadBack_73 : decode cX2_isReadBack 73 = .ok (.iconst 1, 1) := by decide +kernel
theorem dX2_isReadBack_74 : decode cX2_isReadBack 74 = .ok (.ireturn, 1) := by decide +kernel
set_option maxRecDepth 20000 in
theorem ggX2_isDivided_X1_quotient : GoodIn wsX2_isDivided wsX1_quotient := goodIn_r _ [4, 5, 6, 3, 7, 8] (by decide +kernel) (by decide +kernel)
set_option maxRecDepth 20000 in
theorem gX2_isDivided_X1_quotient : GoodIn wsX2_isDivided (va_wsS RX2 128 yX1_quotient wsX1_quotient) := goodIn_app (goodIn_of _ (by decide +kernel)) ggX2_isDivided_X1_quotient
set_option maxRecDepth 20000 in
theorem ggX2_isDivided_X1_isLess : GoodIn wsX2_isDivided wsX1_isLess := goodIn_r _ [7, 8] (by decide +kernel) (by decide +kernel)
set_option maxRecDepth 20000 in
theorem gX2_isDivided_X1_isLess : GoodIn wsX2_isDivided (va_wsS RX2 184 yX1_isLess wsX1_isLess) := goodIn_app (goodIn_of _ (by decide +kernel)) ggX2_isDivided_X1_isLess
theorem dX2_isDivided_0 : decode cX2_isDivided 0 = .ok (.lload_n 2, 1) := by decide +kernel
theorem dX2_isDivided_1 : decode cX2_isDivided 1 = .ok (.lconst 0, 1) := by decide +kernel
theorem dX2_isDivided_2 : decode cX2_isDivided 2 = .ok (.lcmp, 1) := by decide +kernel
theorem dX2_isDivided_3 : decode cX2_isDivided 3 = .ok (.ifCond .ne 5, 3) := by decide +kernel
theorem dX2_isDivided_6 : decode cX2_isDivided 6 = .ok (.iconst 1, 1) := by decide +kernel
theorem dX2_isDivided_7 : decode cX2_isDivided 7 = .ok (.ireturn, 1) := by decide +kernel
theorem dX2_isDivided_8 : decode cX2_isDivided 8 = .ok (.lload_n 0, 1) := by decide +kernel
theorem dX2_isDivided_9 : decode cX2_isDivided 9 = .ok (.lload_n 2, 1) := by decide +kernel
theorem dX2_isDivided_10 : decode cX2_isDivided 10 = .ok (.invokestatic 128, 3) := by decide +kernel
theorem dX2_isDivided_13 : decode cX2_isDivided 13 = .ok (.lstore 4, 2) := by decide +kernel
theorem dX2_isDivided_15 : decode cX2_isDivided 15 = .ok (.lload_n 0, 1) := by decide +kernel
theorem dX2_isDivided_16 : decode cX2_isDivided 16 = .ok (.lload 4, 2) := by decide +kernel
theorem dX2_isDivided_18 : decode cX2_isDivided 18 = .ok (.lload_n 2, 1) := by decide +kernel
theorem dX2_isDivided_19 : decode cX2_isDivided 19 = .ok (.lmul, 1) := by decide +kernel
theorem dX2_isDivided_20 : decode cX2_isDivided 20 = .ok (.lsub, 1) := by decide +kernel
theorem dX2_isDivided_21 : decode cX2_isDivided 21 = .ok (.lstore 6, 2) := by decide +kernel
theorem dX2_isDivided_23 : decode cX2_isDivided 23 = .ok (.lload 4, 2) := by decide +kernel
theorem dX2_isDivided_25 : decode cX2_isDivided 25 = .ok (.lload_n 2, 1) := by decide +kernel
theorem dX2_isDivided_26 : decode cX2_isDivided 26 = .ok (.lmul, 1) := by decide +kernel
theorem dX2_isDivided_27 : decode cX2_isDivided 27 = .ok (.lload 6, 2) := by decide +kernel
theorem dX2_isDivided_29 : decode cX2_isDivided 29 = .ok (.ladd, 1) := by decide +kernel
theorem dX2_isDivided_30 : decode cX2_isDivided 30 = .ok (.lload_n 0, 1) := by decide +kernel
theorem dX2_isDivided_31 : decode cX2_isDivided 31 = .ok (.lcmp, 1) := by decide +kernel
theorem dX2_isDivided_32 : decode cX2_isDivided 32 = .ok (.ifCond .ne 16, 3) := by decide +kernel
theorem dX2_isDivided_35 : decode cX2_isDivided 35 = .ok (.lload 6, 2) := by decide +kernel
theorem dX2_isDivided_37 : decode cX2_isDivided 37 = .ok (.lload_n 2, 1) := by decide +kernel
theorem dX2_isDivided_38 : decode cX2_isDivided 38 = .ok (.invokestatic 184, 3) := by decide +kernel
theorem dX2_isDivided_41 : decode cX2_isDivided 41 = .ok (.ifCond .eq 7, 3) := by decide +kernel
theorem dX2_isDivided_44 : decode cX2_isDivided 44 = .ok (.iconst 1, 1) := by decide +kernel
theorem dX2_isDivided_45 : decode cX2_isDivided 45 = .ok (.goto 4, 3) := by decide +kernel
theorem dX2_isDivided_48 : decode cX2_isDivided 48 = .ok (.iconst 0, 1) := by decide +kernel
theorem dX2_isDivided_49 : decode cX2_isDivided 49 = .ok (.ireturn, 1) := by decide +kernel
set_option maxRecDepth 20000 in
theorem ggX2_isTurnedBack_J13_rotateLeft_b2ac5 : GoodIn wsX2_isTurnedBack wsJ13_rotateLeft_b2ac5 := goodIn_r _ [4] (by decide +kernel) (by decide +kernel)
set_option maxRecDepth 20000 in
theorem gX2_isTurnedBack_J13_rotateLeft_b2ac5 : GoodIn wsX2_isTurnedBack (va_wsS RX2 140 yJ13_rotateLeft_b2ac5 wsJ13_rotateLeft_b2ac5) := goodIn_app (goodIn_of _ (by decide +kernel)) ggX2_isTurnedBack_J13_rotateLeft_b2ac5
set_option maxRecDepth 20000 in
theorem ggX2_isTurnedBack_J13_reverse_067f4 : GoodIn wsX2_isTurnedBack wsJ13_reverse_067f4 := goodIn_r _ [7, 8, 9, 10, 11, 12, 3, 13, 14, 15] (by decide +kernel) (by decide +kernel)
set_option maxRecDepth 20000 in
theorem gX2_isTurnedBack_J13_reverse_067f4 : GoodIn wsX2_isTurnedBack (va_wsS RX2 152 yJ13_reverse_067f4 wsJ13_reverse_067f4) := goodIn_app (goodIn_of _ (by decide +kernel)) ggX2_isTurnedBack_J13_reverse_067f4
set_option maxRecDepth 20000 in
theorem ggX2_isTurnedBack_J13_reverseBytes_067f4 : GoodIn wsX2_isTurnedBack wsJ13_reverseBytes_067f4 := goodIn_r _ [13, 14, 15] (by decide +kernel) (by decide +kernel)
set_option maxRecDepth 20000 in
theorem gX2_isTurnedBack_J13_reverseBytes_067f4 : GoodIn wsX2_isTurnedBack (va_wsS RX2 149 yJ13_reverseBytes_067f4 wsJ13_reverseBytes_067f4) := goodIn_app (goodIn_of _ (by decide +kernel)) ggX2_isTurnedBack_J13_reverseBytes_067f4
theorem dX2_isTurnedBack_0 : decode cX2_isTurnedBack 0 = .ok (.iconst 0, 1) := by decide +kernel
theorem dX2_isTurnedBack_1 : decode cX2_isTurnedBack 1 = .ok (.istore_n 2, 1) := by decide +kernel
theorem dX2_isTurnedBack_2 : decode cX2_isTurnedBack 2 = .ok (.iload_n 2, 1) := by decide +kernel
theorem dX2_isTurnedBack_3 : decode cX2_isTurnedBack 3 = .ok (.bipush 64, 2) := by decide +kernel
theorem dX2_isTurnedBack_5 : decode cX2_isTurnedBack 5 = .ok (.if_icmp .ge 26, 3) := by decide +kernel
theorem dX2_isTurnedBack_8 : decode cX2_isTurnedBack 8 = .ok (.lload_n 0, 1) := by decide +kernel
theorem dX2_isTurnedBack_9 : decode cX2_isTurnedBack 9 = .ok (.iload_n 2, 1) := by decide +kernel
theorem dX2_isTurnedBack_10 : decode cX2_isTurnedBack 10 = .ok (.invokestatic 140, 3) := by decide +kernel
theorem dX2_isTurnedBack_13 : decode cX2_isTurnedBack 13 = .ok (.iload_n 2, 1) := by decide +kernel
theorem dX2_isTurnedBack_14 : decode cX2_isTurnedBack 14 = .ok (.ineg, 1) := by decide +kernel
theorem dX2_isTurnedBack_15 : decode cX2_isTurnedBack 15 = .ok (.invokestatic 140, 3) := by decide +kernel
theorem dX2_isTurnedBack_18 : decode cX2_isTurnedBack 18 = .ok (.lload_n 0, 1) := by decide +kernel
theorem dX2_isTurnedBack_19 : decode cX2_isTurnedBack 19 = .ok (.lcmp, 1) := by decide +kernel
theorem dX2_isTurnedBack_20 : decode cX2_isTurnedBack 20 = .ok (.ifCond .eq 5, 3) := by decide +kernel
theorem dX2_isTurnedBack_23 : decode cX2_isTurnedBack 23 = .ok (.iconst 0, 1) := by decide +kernel
theorem dX2_isTurnedBack_24 : decode cX2_isTurnedBack 24 = .ok (.ireturn, 1) := by decide +kernel
theorem dX2_isTurnedBack_25 : decode cX2_isTurnedBack 25 = .ok (.iinc 2 1, 3) := by decide +kernel
theorem dX2_isTurnedBack_28 : decode cX2_isTurnedBack 28 = .ok (.goto (-26), 3) := by decide +kernel
theorem dX2_isTurnedBack_31 : decode cX2_isTurnedBack 31 = .ok (.lload_n 0, 1) := by decide +kernel
theorem dX2_isTurnedBack_32 : decode cX2_isTurnedBack 32 = .ok (.invokestatic 152, 3) := by decide +kernel
theorem dX2_isTurnedBack_35 : decode cX2_isTurnedBack 35 = .ok (.invokestatic 152, 3) := by decide +kernel
theorem dX2_isTurnedBack_38 : decode cX2_isTurnedBack 38 = .ok (.lload_n 0, 1) := by decide +kernel
theorem dX2_isTurnedBack_39 : decode cX2_isTurnedBack 39 = .ok (.lcmp, 1) := by decide +kernel
theorem dX2_isTurnedBack_40 : decode cX2_isTurnedBack 40 = .ok (.ifCond .ne 19, 3) := by decide +kernel
theorem dX2_isTurnedBack_43 : decode cX2_isTurnedBack 43 = .ok (.lload_n 0, 1) := by decide +kernel
theorem dX2_isTurnedBack_44 : decode cX2_isTurnedBack 44 = .ok (.invokestatic 149, 3) := by decide +kernel
theorem dX2_isTurnedBack_47 : decode cX2_isTurnedBack 47 = .ok (.invokestatic 149, 3) := by decide +kernel
theorem dX2_isTurnedBack_50 : decode cX2_isTurnedBack 50 = .ok (.lload_n 0, 1) := by decide +kernel
theorem dX2_isTurnedBack_51 : decode cX2_isTurnedBack 51 = .ok (.lcmp, 1) := by decide +kernel
theorem dX2_isTurnedBack_52 : decode cX2_isTurnedBack 52 = .ok (.ifCond .ne 7, 3) := by decide +kernel
theorem dX2_isTurnedBack_55 : decode cX2_isTurnedBack 55 = .ok (.iconst 1, 1) := by decide +kernel
theorem dX2_isTurnedBack_56 : decode cX2_isTurnedBack 56 = .ok (.goto 4, 3) := by decide +kernel
theorem dX2_isTurnedBack_59 : decode cX2_isTurnedBack 59 = .ok (.iconst 0, 1) := by decide +kernel
theorem dX2_isTurnedBack_60 : decode cX2_isTurnedBack 60 = .ok (.ireturn, 1) := by decide +kernel
theorem dX3_init_0 : decode cX3_init 0 = .ok (.aload_n 0, 1) := by decide +kernel
theorem dX3_init_1 : decode cX3_init 1 = .ok (.invokespecial 1, 3) := by decide +kernel
theorem dX3_init_4 : decode cX3_init 4 = .ok (.return_, 1) := by decide +kernel
