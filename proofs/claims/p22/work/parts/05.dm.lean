theorem dX4_init_0 : decode cX4_init 0 = .ok (.aload_n 0, 1) := by decide +kernel
theorem dX4_init_1 : decode cX4_init 1 = .ok (.invokespecial 1, 3) := by decide +kernel
theorem dX4_init_4 : decode cX4_init 4 = .ok (.aload_n 0, 1) := by decide +kernel
theorem dX4_init_5 : decode cX4_init 5 = .ok (.bipush 8, 2) := by decide +kernel
theorem dX4_init_7 : decode cX4_init 7 = .ok (.iconst 4, 1) := by decide +kernel
theorem dX4_init_8 : decode cX4_init 8 = .ok (.multianewarray 9 2, 4) := by decide +kernel
theorem dX4_init_12 : decode cX4_init 12 = .ok (.putfield 11, 3) := by decide +kernel
theorem dX4_init_15 : decode cX4_init 15 = .ok (.aload_n 0, 1) := by decide +kernel
theorem dX4_init_16 : decode cX4_init 16 = .ok (.ldc 14, 2) := by decide +kernel
theorem dX4_init_18 : decode cX4_init 18 = .ok (.putfield 16, 3) := by decide +kernel
theorem dX4_init_21 : decode cX4_init 21 = .ok (.aload_n 0, 1) := by decide +kernel
theorem dX4_init_22 : decode cX4_init 22 = .ok (.bipush 64, 2) := by decide +kernel
theorem dX4_init_24 : decode cX4_init 24 = .ok (.newarray .int, 2) := by decide +kernel
theorem dX4_init_26 : decode cX4_init 26 = .ok (.putfield 20, 3) := by decide +kernel
theorem dX4_init_29 : decode cX4_init 29 = .ok (.aload_n 0, 1) := by decide +kernel
theorem dX4_init_30 : decode cX4_init 30 = .ok (.iconst 4, 1) := by decide +kernel
theorem dX4_init_31 : decode cX4_init 31 = .ok (.newarray .int, 2) := by decide +kernel
theorem dX4_init_33 : decode cX4_init 33 = .ok (.putfield 24, 3) := by decide +kernel
theorem dX4_init_36 : decode cX4_init 36 = .ok (.return_, 1) := by decide +kernel
theorem dX4_thrown_0 : decode cX4_thrown 0 = .ok (.aload_n 0, 1) := by decide +kernel
theorem dX4_thrown_1 : decode cX4_thrown 1 = .ok (.getfield 27, 3) := by decide +kernel
theorem dX4_thrown_4 : decode cX4_thrown 4 = .ok (.ireturn, 1) := by decide +kernel
theorem dX4_refuse_0 : decode cX4_refuse 0 = .ok (.aload_n 0, 1) := by decide +kernel
theorem dX4_refuse_1 : decode cX4_refuse 1 = .ok (.iload_n 1, 1) := by decide +kernel
theorem dX4_refuse_2 : decode cX4_refuse 2 = .ok (.putfield 27, 3) := by decide +kernel
theorem dX4_refuse_5 : decode cX4_refuse 5 = .ok (.iconst 0, 1) := by decide +kernel
theorem dX4_refuse_6 : decode cX4_refuse 6 = .ok (.ireturn, 1) := by decide +kernel
theorem dX4_refuses_0 : decode cX4_refuses 0 = .ok (.aload_n 0, 1) := by decide +kernel
theorem dX4_refuses_1 : decode cX4_refuses 1 = .ok (.iload_n 1, 1) := by decide +kernel
theorem dX4_refuses_2 : decode cX4_refuses 2 = .ok (.putfield 27, 3) := by decide +kernel
theorem dX4_refuses_5 : decode cX4_refuses 5 = .ok (.iconst 0, 1) := by decide +kernel
theorem dX4_refuses_6 : decode cX4_refuses 6 = .ok (.ireturn, 1) := by decide +kernel
theorem dX4_is_0 : decode cX4_is 0 = .ok (.iload_n 0, 1) := by decide +kernel
theorem dX4_is_1 : decode cX4_is 1 = .ok (.iload_n 1, 1) := by decide +kernel
theorem dX4_is_2 : decode cX4_is 2 = .ok (.if_icmp .lt 12, 3) := by decide +kernel
theorem dX4_is_5 : decode cX4_is 5 = .ok (.iload_n 0, 1) := by decide +kernel
theorem dX4_is_6 : decode cX4_is 6 = .ok (.iload_n 2, 1) := by decide +kernel
theorem dX4_is_7 : decode cX4_is 7 = .ok (.if_icmp .gt 7, 3) := by decide +kernel
theorem dX4_is_10 : decode cX4_is 10 = .ok (.iconst 1, 1) := by decide +kernel
theorem dX4_is_11 : decode cX4_is 11 = .ok (.goto 4, 3) := by decide +kernel
theorem dX4_is_14 : decode cX4_is 14 = .ok (.iconst 0, 1) := by decide +kernel
theorem dX4_is_15 : decode cX4_is 15 = .ok (.ireturn, 1) := by decide +kernel
set_option maxRecDepth 20000 in
theorem ggX4_isCell_X4_is : GoodIn wsX4_isCell wsX4_is := goodIn_r _ [4] (by decide +kernel) (by decide +kernel)
set_option maxRecDepth 20000 in
theorem gX4_isCell_X4_is : GoodIn wsX4_isCell (va_wsS RX4 31 yX4_is wsX4_is) := goodIn_app (goodIn_of _ (by decide +kernel)) ggX4_isCell_X4_is
theorem dX4_isCell_0 : decode cX4_isCell 0 = .ok (.iload_n 0, 1) := by decide +kernel
theorem dX4_isCell_1 : decode cX4_isCell 1 = .ok (.iconst 0, 1) := by decide +kernel
theorem dX4_isCell_2 : decode cX4_isCell 2 = .ok (.bipush 7, 2) := by decide +kernel
theorem dX4_isCell_4 : decode cX4_isCell 4 = .ok (.invokestatic 31, 3) := by decide +kernel
theorem dX4_isCell_7 : decode cX4_isCell 7 = .ok (.ireturn, 1) := by decide +kernel
set_option maxRecDepth 20000 in
theorem ggX4_isRight_X4_is : GoodIn wsX4_isRight wsX4_is := goodIn_r _ [4] (by decide +kernel) (by decide +kernel)
set_option maxRecDepth 20000 in
theorem gX4_isRight_X4_is : GoodIn wsX4_isRight (va_wsS RX4 31 yX4_is wsX4_is) := goodIn_app (goodIn_of _ (by decide +kernel)) ggX4_isRight_X4_is
theorem dX4_isRight_0 : decode cX4_isRight 0 = .ok (.iload_n 0, 1) := by decide +kernel
theorem dX4_isRight_1 : decode cX4_isRight 1 = .ok (.iconst 2, 1) := by decide +kernel
theorem dX4_isRight_2 : decode cX4_isRight 2 = .ok (.bipush 36, 2) := by decide +kernel
theorem dX4_isRight_4 : decode cX4_isRight 4 = .ok (.invokestatic 31, 3) := by decide +kernel
theorem dX4_isRight_7 : decode cX4_isRight 7 = .ok (.ifCond .eq 16, 3) := by decide +kernel
theorem dX4_isRight_10 : decode cX4_isRight 10 = .ok (.iload_n 1, 1) := by decide +kernel
theorem dX4_isRight_11 : decode cX4_isRight 11 = .ok (.iconst 0, 1) := by decide +kernel
theorem dX4_isRight_12 : decode cX4_isRight 12 = .ok (.iconst 3, 1) := by decide +kernel
theorem dX4_isRight_13 : decode cX4_isRight 13 = .ok (.invokestatic 31, 3) := by decide +kernel
theorem dX4_isRight_16 : decode cX4_isRight 16 = .ok (.ifCond .eq 7, 3) := by decide +kernel
theorem dX4_isRight_19 : decode cX4_isRight 19 = .ok (.iconst 1, 1) := by decide +kernel
theorem dX4_isRight_20 : decode cX4_isRight 20 = .ok (.goto 4, 3) := by decide +kernel
theorem dX4_isRight_23 : decode cX4_isRight 23 = .ok (.iconst 0, 1) := by decide +kernel
theorem dX4_isRight_24 : decode cX4_isRight 24 = .ok (.ireturn, 1) := by decide +kernel
set_option maxRecDepth 20000 in
theorem ggX4_bit_X4_power : GoodIn wsX4_bit wsX4_power := goodIn_r _ [4] (by decide +kernel) (by decide +kernel)
set_option maxRecDepth 20000 in
theorem gX4_bit_X4_power : GoodIn wsX4_bit (va_wsS RX4 35 yX4_power wsX4_power) := goodIn_app (goodIn_of _ (by decide +kernel)) ggX4_bit_X4_power
theorem dX4_bit_0 : decode cX4_bit 0 = .ok (.aload_n 0, 1) := by decide +kernel
theorem dX4_bit_1 : decode cX4_bit 1 = .ok (.iload_n 1, 1) := by decide +kernel
theorem dX4_bit_2 : decode cX4_bit 2 = .ok (.bipush 16, 2) := by decide +kernel
theorem dX4_bit_4 : decode cX4_bit 4 = .ok (.idiv, 1) := by decide +kernel
theorem dX4_bit_5 : decode cX4_bit 5 = .ok (.iaload, 1) := by decide +kernel
theorem dX4_bit_6 : decode cX4_bit 6 = .ok (.iload_n 1, 1) := by decide +kernel
theorem dX4_bit_7 : decode cX4_bit 7 = .ok (.bipush 16, 2) := by decide +kernel
theorem dX4_bit_9 : decode cX4_bit 9 = .ok (.irem, 1) := by decide +kernel
theorem dX4_bit_10 : decode cX4_bit 10 = .ok (.invokestatic 35, 3) := by decide +kernel
theorem dX4_bit_13 : decode cX4_bit 13 = .ok (.idiv, 1) := by decide +kernel
theorem dX4_bit_14 : decode cX4_bit 14 = .ok (.iconst 2, 1) := by decide +kernel
theorem dX4_bit_15 : decode cX4_bit 15 = .ok (.irem, 1) := by decide +kernel
theorem dX4_bit_16 : decode cX4_bit 16 = .ok (.ireturn, 1) := by decide +kernel
theorem dX4_power_0 : decode cX4_power 0 = .ok (.iconst 1, 1) := by decide +kernel
theorem dX4_power_1 : decode cX4_power 1 = .ok (.istore_n 1, 1) := by decide +kernel
theorem dX4_power_2 : decode cX4_power 2 = .ok (.iconst 0, 1) := by decide +kernel
theorem dX4_power_3 : decode cX4_power 3 = .ok (.istore_n 2, 1) := by decide +kernel
theorem dX4_power_4 : decode cX4_power 4 = .ok (.iload_n 2, 1) := by decide +kernel
theorem dX4_power_5 : decode cX4_power 5 = .ok (.iload_n 0, 1) := by decide +kernel
theorem dX4_power_6 : decode cX4_power 6 = .ok (.if_icmp .ge 13, 3) := by decide +kernel
theorem dX4_power_9 : decode cX4_power 9 = .ok (.iload_n 1, 1) := by decide +kernel
theorem dX4_power_10 : decode cX4_power 10 = .ok (.iconst 2, 1) := by decide +kernel
theorem dX4_power_11 : decode cX4_power 11 = .ok (.imul, 1) := by decide +kernel
theorem dX4_power_12 : decode cX4_power 12 = .ok (.istore_n 1, 1) := by decide +kernel
theorem dX4_power_13 : decode cX4_power 13 = .ok (.iinc 2 1, 3) := by decide +kernel
theorem dX4_power_16 : decode cX4_power 16 = .ok (.goto (-12), 3) := by decide +kernel
theorem dX4_power_19 : decode cX4_power 19 = .ok (.iload_n 1, 1) := by decide +kernel
theorem dX4_power_20 : decode cX4_power 20 = .ok (.ireturn, 1) := by decide +kernel
set_option maxRecDepth 20000 in
theorem ggX4_set_X4_bit : GoodIn wsX4_set wsX4_bit := goodIn_r _ [4, 5, 6, 3, 7] (by decide +kernel) (by decide +kernel)
set_option maxRecDepth 20000 in
theorem gX4_set_X4_bit : GoodIn wsX4_set (va_wsS RX4 39 yX4_bit wsX4_bit) := goodIn_app (goodIn_of _ (by decide +kernel)) ggX4_set_X4_bit
set_option maxRecDepth 20000 in
theorem ggX4_set_X4_power : GoodIn wsX4_set wsX4_power := goodIn_r _ [7] (by decide +kernel) (by decide +kernel)
set_option maxRecDepth 20000 in
theorem gX4_set_X4_power : GoodIn wsX4_set (va_wsS RX4 35 yX4_power wsX4_power) := goodIn_app (goodIn_of _ (by decide +kernel)) ggX4_set_X4_power
theorem dX4_set_0 : decode cX4_set 0 = .ok (.aload_n 0, 1) := by decide +kernel
theorem dX4_set_1 : decode cX4_set 1 = .ok (.iload_n 1, 1) := by decide +kernel
theorem dX4_set_2 : decode cX4_set 2 = .ok (.invokestatic 39, 3) := by decide +kernel
theorem dX4_set_5 : decode cX4_set 5 = .ok (.istore_n 3, 1) := by decide +kernel
theorem dX4_set_6 : decode cX4_set 6 = .ok (.aload_n 0, 1) := by decide +kernel
theorem dX4_set_7 : decode cX4_set 7 = .ok (.iload_n 1, 1) := by decide +kernel
theorem dX4_set_8 : decode cX4_set 8 = .ok (.bipush 16, 2) := by decide +kernel
theorem dX4_set_10 : decode cX4_set 10 = .ok (.idiv, 1) := by decide +kernel
theorem dX4_set_11 : decode cX4_set 11 = .ok (.dup2, 1) := by decide +kernel
theorem dX4_set_12 : decode cX4_set 12 = .ok (.iaload, 1) := by decide +kernel
theorem dX4_set_13 : decode cX4_set 13 = .ok (.iload_n 2, 1) := by decide +kernel
theorem dX4_set_14 : decode cX4_set 14 = .ok (.iload_n 3, 1) := by decide +kernel
theorem dX4_set_15 : decode cX4_set 15 = .ok (.isub, 1) := by decide +kernel
theorem dX4_set_16 : decode cX4_set 16 = .ok (.iload_n 1, 1) := by decide +kernel
theorem dX4_set_17 : decode cX4_set 17 = .ok (.bipush 16, 2) := by decide +kernel
theorem dX4_set_19 : decode cX4_set 19 = .ok (.irem, 1) := by decide +kernel
theorem dX4_set_20 : decode cX4_set 20 = .ok (.invokestatic 35, 3) := by decide +kernel
theorem dX4_set_23 : decode cX4_set 23 = .ok (.imul, 1) := by decide +kernel
theorem dX4_set_24 : decode cX4_set 24 = .ok (.iadd, 1) := by decide +kernel
theorem dX4_set_25 : decode cX4_set 25 = .ok (.iastore, 1) := by decide +kernel
theorem dX4_set_26 : decode cX4_set 26 = .ok (.return_, 1) := by decide +kernel
theorem dX4_bits_0 : decode cX4_bits 0 = .ok (.bipush 16, 2) := by decide +kernel
theorem dX4_bits_2 : decode cX4_bits 2 = .ok (.aload_n 0, 1) := by decide +kernel
theorem dX4_bits_3 : decode cX4_bits 3 = .ok (.arraylength, 1) := by decide +kernel
theorem dX4_bits_4 : decode cX4_bits 4 = .ok (.imul, 1) := by decide +kernel
theorem dX4_bits_5 : decode cX4_bits 5 = .ok (.ireturn, 1) := by decide +kernel
theorem dX4_isZero_0 : decode cX4_isZero 0 = .ok (.aload_n 0, 1) := by decide +kernel
theorem dX4_isZero_1 : decode cX4_isZero 1 = .ok (.astore_n 1, 1) := by decide +kernel
theorem dX4_isZero_2 : decode cX4_isZero 2 = .ok (.aload_n 1, 1) := by decide +kernel
theorem dX4_isZero_3 : decode cX4_isZero 3 = .ok (.arraylength, 1) := by decide +kernel
theorem dX4_isZero_4 : decode cX4_isZero 4 = .ok (.istore_n 2, 1) := by decide +kernel
theorem dX4_isZero_5 : decode cX4_isZero 5 = .ok (.iconst 0, 1) := by decide +kernel
theorem dX4_isZero_6 : decode cX4_isZero 6 = .ok (.istore_n 3, 1) := by decide +kernel
theorem dX4_isZero_7 : decode cX4_isZero 7 = .ok (.iload_n 3, 1) := by decide +kernel
theorem dX4_isZero_8 : decode cX4_isZero 8 = .ok (.iload_n 2, 1) := by decide +kernel
theorem dX4_isZero_9 : decode cX4_isZero 9 = .ok (.if_icmp .ge 21, 3) := by decide +kernel
theorem dX4_isZero_12 : decode cX4_isZero 12 = .ok (.aload_n 1, 1) := by decide +kernel
theorem dX4_isZero_13 : decode cX4_isZero 13 = .ok (.iload_n 3, 1) := by decide +kernel
theorem dX4_isZero_14 : decode cX4_isZero 14 = .ok (.iaload, 1) := by decide +kernel
theorem dX4_isZero_15 : decode cX4_isZero 15 = .ok (.istore 4, 2) := by decide +kernel
theorem dX4_isZero_17 : decode cX4_isZero 17 = .ok (.iload 4, 2) := by decide +kernel
theorem dX4_isZero_19 : decode cX4_isZero 19 = .ok (.ifCond .le 5, 3) := by decide +kernel
theorem dX4_isZero_22 : decode cX4_isZero 22 = .ok (.iconst 0, 1) := by decide +kernel
theorem dX4_isZero_23 : decode cX4_isZero 23 = .ok (.ireturn, 1) := by decide +kernel
theorem dX4_isZero_24 : decode cX4_isZero 24 = .ok (.iinc 3 1, 3) := by decide +kernel
theorem dX4_isZero_27 : decode cX4_isZero 27 = .ok (.goto (-20), 3) := by decide +kernel
theorem dX4_isZero_30 : decode cX4_isZero 30 = .ok (.iconst 1, 1) := by decide +kernel
theorem dX4_isZero_31 : decode cX4_isZero 31 = .ok (.ireturn, 1) := by decide +kernel
theorem dX4_isNegative_0 : decode cX4_isNegative 0 = .ok (.aload_n 0, 1) := by decide +kernel
theorem dX4_isNegative_1 : decode cX4_isNegative 1 = .ok (.aload_n 0, 1) := by decide +kernel
theorem dX4_isNegative_2 : decode cX4_isNegative 2 = .ok (.arraylength, 1) := by decide +kernel
theorem dX4_isNegative_3 : decode cX4_isNegative 3 = .ok (.iconst 1, 1) := by decide +kernel
theorem dX4_isNegative_4 : decode cX4_isNegative 4 = .ok (.isub, 1) := by decide +kernel
theorem dX4_isNegative_5 : decode cX4_isNegative 5 = .ok (.iaload, 1) := by decide +kernel
theorem dX4_isNegative_6 : decode cX4_isNegative 6 = .ok (.ldc 43, 2) := by decide +kernel
theorem dX4_isNegative_8 : decode cX4_isNegative 8 = .ok (.if_icmp .lt 7, 3) := by decide +kernel
theorem dX4_isNegative_11 : decode cX4_isNegative 11 = .ok (.iconst 1, 1) := by decide +kernel
theorem dX4_isNegative_12 : decode cX4_isNegative 12 = .ok (.goto 4, 3) := by decide +kernel
theorem dX4_isNegative_15 : decode cX4_isNegative 15 = .ok (.iconst 0, 1) := by decide +kernel
theorem dX4_isNegative_16 : decode cX4_isNegative 16 = .ok (.ireturn, 1) := by decide +kernel
theorem dX4_isSame_0 : decode cX4_isSame 0 = .ok (.iconst 0, 1) := by decide +kernel
theorem dX4_isSame_1 : decode cX4_isSame 1 = .ok (.istore_n 2, 1) := by decide +kernel
theorem dX4_isSame_2 : decode cX4_isSame 2 = .ok (.iload_n 2, 1) := by decide +kernel
theorem dX4_isSame_3 : decode cX4_isSame 3 = .ok (.aload_n 0, 1) := by decide +kernel
theorem dX4_isSame_4 : decode cX4_isSame 4 = .ok (.arraylength, 1) := by decide +kernel
theorem dX4_isSame_5 : decode cX4_isSame 5 = .ok (.if_icmp .ge 20, 3) := by decide +kernel
theorem dX4_isSame_8 : decode cX4_isSame 8 = .ok (.aload_n 0, 1) := by decide +kernel
theorem dX4_isSame_9 : decode cX4_isSame 9 = .ok (.iload_n 2, 1) := by decide +kernel
theorem dX4_isSame_10 : decode cX4_isSame 10 = .ok (.iaload, 1) := by decide +kernel
theorem dX4_isSame_11 : decode cX4_isSame 11 = .ok (.aload_n 1, 1) := by decide +kernel
theorem dX4_isSame_12 : decode cX4_isSame 12 = .ok (.iload_n 2, 1) := by decide +kernel
theorem dX4_isSame_13 : decode cX4_isSame 13 = .ok (.iaload, 1) := by decide +kernel
theorem dX4_isSame_14 : decode cX4_isSame 14 = .ok (.if_icmp .eq 5, 3) := by decide +kernel
theorem dX4_isSame_17 : decode cX4_isSame 17 = .ok (.iconst 0, 1) := by decide +kernel
theorem dX4_isSame_18 : decode cX4_isSame 18 = .ok (.ireturn, 1) := by decide +kernel
theorem dX4_isSame_19 : decode cX4_isSame 19 = .ok (.iinc 2 1, 3) := by decide +kernel
theorem dX4_isSame_22 : decode cX4_isSame 22 = .ok (.goto (-20), 3) := by decide +kernel
theorem dX4_isSame_25 : decode cX4_isSame 25 = .ok (.iconst 1, 1) := by decide +kernel
theorem dX4_isSame_26 : decode cX4_isSame 26 = .ok (.ireturn, 1) := by decide +kernel
theorem dX4_compare_0 : decode cX4_compare 0 = .ok (.aload_n 0, 1) := by decide +kernel
theorem dX4_compare_1 : decode cX4_compare 1 = .ok (.arraylength, 1) := by decide +kernel
theorem dX4_compare_2 : decode cX4_compare 2 = .ok (.iconst 1, 1) := by decide +kernel
theorem dX4_compare_3 : decode cX4_compare 3 = .ok (.isub, 1) := by decide +kernel
theorem dX4_compare_4 : decode cX4_compare 4 = .ok (.istore_n 2, 1) := by decide +kernel
theorem dX4_compare_5 : decode cX4_compare 5 = .ok (.iload_n 2, 1) := by decide +kernel
theorem dX4_compare_6 : decode cX4_compare 6 = .ok (.ifCond .lt 33, 3) := by decide +kernel
theorem dX4_compare_9 : decode cX4_compare 9 = .ok (.aload_n 0, 1) := by decide +kernel
theorem dX4_compare_10 : decode cX4_compare 10 = .ok (.iload_n 2, 1) := by decide +kernel
theorem dX4_compare_11 : decode cX4_compare 11 = .ok (.iaload, 1) := by decide +kernel
theorem dX4_compare_12 : decode cX4_compare 12 = .ok (.aload_n 1, 1) := by decide +kernel
theorem dX4_compare_13 : decode cX4_compare 13 = .ok (.iload_n 2, 1) := by decide +kernel
theorem dX4_compare_14 : decode cX4_compare 14 = .ok (.iaload, 1) := by decide +kernel
theorem dX4_compare_15 : decode cX4_compare 15 = .ok (.if_icmp .eq 18, 3) := by decide +kernel
theorem dX4_compare_18 : decode cX4_compare 18 = .ok (.aload_n 0, 1) := by decide +kernel
theorem dX4_compare_19 : decode cX4_compare 19 = .ok (.iload_n 2, 1) := by decide +kernel
theorem dX4_compare_20 : decode cX4_compare 20 = .ok (.iaload, 1) := by decide +kernel
theorem dX4_compare_21 : decode cX4_compare 21 = .ok (.aload_n 1, 1) := by decide +kernel
theorem dX4_compare_22 : decode cX4_compare 22 = .ok (.iload_n 2, 1) := by decide +kernel
theorem dX4_compare_23 : decode cX4_compare 23 = .ok (.iaload, 1) := by decide +kernel
theorem dX4_compare_24 : decode cX4_compare 24 = .ok (.if_icmp .ge 7, 3) := by decide +kernel
theorem dX4_compare_27 : decode cX4_compare 27 = .ok (.iconst (-1), 1) := by decide +kernel
theorem dX4_compare_28 : decode cX4_compare 28 = .ok (.goto 4, 3) := by decide +kernel
theorem dX4_compare_31 : decode cX4_compare 31 = .ok (.iconst 1, 1) := by decide +kernel
theorem dX4_compare_32 : decode cX4_compare 32 = .ok (.ireturn, 1) := by decide +kernel
theorem dX4_compare_33 : decode cX4_compare 33 = .ok (.iinc 2 (-1), 3) := by decide +kernel
theorem dX4_compare_36 : decode cX4_compare 36 = .ok (.goto (-31), 3) := by decide +kernel
theorem dX4_compare_39 : decode cX4_compare 39 = .ok (.iconst 0, 1) := by decide +kernel
theorem dX4_compare_40 : decode cX4_compare 40 = .ok (.ireturn, 1) := by decide +kernel
set_option maxRecDepth 20000 in
theorem ggX4_compareSigned_X4_isNegative : GoodIn wsX4_compareSigned wsX4_isNegative := goodIn_r _ [4, 5] (by decide +kernel) (by decide +kernel)
set_option maxRecDepth 20000 in
theorem gX4_compareSigned_X4_isNegative : GoodIn wsX4_compareSigned (va_wsS RX4 44 yX4_isNegative wsX4_isNegative) := goodIn_app (goodIn_of _ (by decide +kernel)) ggX4_compareSigned_X4_isNegative
set_option maxRecDepth 20000 in
theorem ggX4_compareSigned_X4_compare : GoodIn wsX4_compareSigned wsX4_compare := goodIn_r _ [8] (by decide +kernel) (by decide +kernel)
set_option maxRecDepth 20000 in
theorem gX4_compareSigned_X4_compare : GoodIn wsX4_compareSigned (va_wsS RX4 48 yX4_compare wsX4_compare) := goodIn_app (goodIn_of _ (by decide +kernel)) ggX4_compareSigned_X4_compare
theorem dX4_compareSigned_0 : decode cX4_compareSigned 0 = .ok (.aload_n 0, 1) := by decide +kernel
theorem dX4_compareSigned_1 : decode cX4_compareSigned 1 = .ok (.invokestatic 44, 3) := by decide +kernel
theorem dX4_compareSigned_4 : decode cX4_compareSigned 4 = .ok (.aload_n 1, 1) := by decide +kernel
theorem dX4_compareSigned_5 : decode cX4_compareSigned 5 = .ok (.invokestatic 44, 3) := by decide +kernel
theorem dX4_compareSigned_8 : decode cX4_compareSigned 8 = .ok (.if_icmp .eq 16, 3) := by decide +kernel
theorem dX4_compareSigned_11 : decode cX4_compareSigned 11 = .ok (.aload_n 0, 1) := by decide +kernel
theorem dX4_compareSigned_12 : decode cX4_compareSigned 12 = .ok (.invokestatic 44, 3) := by decide +kernel
theorem dX4_compareSigned_15 : decode cX4_compareSigned 15 = .ok (.ifCond .eq 7, 3) := by decide +kernel
theorem dX4_compareSigned_18 : decode cX4_compareSigned 18 = .ok (.iconst (-1), 1) := by decide +kernel
theorem dX4_compareSigned_19 : decode cX4_compareSigned 19 = .ok (.goto 4, 3) := by decide +kernel
theorem dX4_compareSigned_22 : decode cX4_compareSigned 22 = .ok (.iconst 1, 1) := by decide +kernel
theorem dX4_compareSigned_23 : decode cX4_compareSigned 23 = .ok (.ireturn, 1) := by decide +kernel
theorem dX4_compareSigned_24 : decode cX4_compareSigned 24 = .ok (.aload_n 0, 1) := by decide +kernel
theorem dX4_compareSigned_25 : decode cX4_compareSigned 25 = .ok (.aload_n 1, 1) := by decide +kernel
theorem dX4_compareSigned_26 : decode cX4_compareSigned 26 = .ok (.invokestatic 48, 3) := by decide +kernel
theorem dX4_compareSigned_29 : decode cX4_compareSigned 29 = .ok (.ireturn, 1) := by decide +kernel
theorem dX4_sum_0 : decode cX4_sum 0 = .ok (.aload_n 0, 1) := by decide +kernel
theorem dX4_sum_1 : decode cX4_sum 1 = .ok (.arraylength, 1) := by decide +kernel
theorem dX4_sum_2 : decode cX4_sum 2 = .ok (.newarray .int, 2) := by decide +kernel
theorem dX4_sum_4 : decode cX4_sum 4 = .ok (.astore_n 2, 1) := by decide +kernel
theorem dX4_sum_5 : decode cX4_sum 5 = .ok (.iconst 0, 1) := by decide +kernel
theorem dX4_sum_6 : decode cX4_sum 6 = .ok (.istore_n 3, 1) := by decide +kernel
theorem dX4_sum_7 : decode cX4_sum 7 = .ok (.iconst 0, 1) := by decide +kernel
theorem dX4_sum_8 : decode cX4_sum 8 = .ok (.istore 4, 2) := by decide +kernel
theorem dX4_sum_10 : decode cX4_sum 10 = .ok (.iload 4, 2) := by decide +kernel
theorem dX4_sum_12 : decode cX4_sum 12 = .ok (.aload_n 2, 1) := by decide +kernel
theorem dX4_sum_13 : decode cX4_sum 13 = .ok (.arraylength, 1) := by decide +kernel
theorem dX4_sum_14 : decode cX4_sum 14 = .ok (.if_icmp .ge 37, 3) := by decide +kernel
theorem dX4_sum_17 : decode cX4_sum 17 = .ok (.aload_n 0, 1) := by decide +kernel
theorem dX4_sum_18 : decode cX4_sum 18 = .ok (.iload 4, 2) := by decide +kernel
theorem dX4_sum_20 : decode cX4_sum 20 = .ok (.iaload, 1) := by decide +kernel
theorem dX4_sum_21 : decode cX4_sum 21 = .ok (.aload_n 1, 1) := by decide +kernel
theorem dX4_sum_22 : decode cX4_sum 22 = .ok (.iload 4, 2) := by decide +kernel
theorem dX4_sum_24 : decode cX4_sum 24 = .ok (.iaload, 1) := by decide +kernel
theorem dX4_sum_25 : decode cX4_sum 25 = .ok (.iadd, 1) := by decide +kernel
theorem dX4_sum_26 : decode cX4_sum 26 = .ok (.iload_n 3, 1) := by decide +kernel
theorem dX4_sum_27 : decode cX4_sum 27 = .ok (.iadd, 1) := by decide +kernel
theorem dX4_sum_28 : decode cX4_sum 28 = .ok (.istore 5, 2) := by decide +kernel
theorem dX4_sum_30 : decode cX4_sum 30 = .ok (.aload_n 2, 1) := by decide +kernel
theorem dX4_sum_31 : decode cX4_sum 31 = .ok (.iload 4, 2) := by decide +kernel
theorem dX4_sum_33 : decode cX4_sum 33 = .ok (.iload 5, 2) := by decide +kernel
theorem dX4_sum_35 : decode cX4_sum 35 = .ok (.ldc 52, 2) := by decide +kernel
theorem dX4_sum_37 : decode cX4_sum 37 = .ok (.irem, 1) := by decide +kernel
theorem dX4_sum_38 : decode cX4_sum 38 = .ok (.iastore, 1) := by decide +kernel
theorem dX4_sum_39 : decode cX4_sum 39 = .ok (.iload 5, 2) := by decide +kernel
theorem dX4_sum_41 : decode cX4_sum 41 = .ok (.ldc 52, 2) := by decide +kernel
theorem dX4_sum_43 : decode cX4_sum 43 = .ok (.idiv, 1) := by decide +kernel
theorem dX4_sum_44 : decode cX4_sum 44 = .ok (.istore_n 3, 1) := by decide +kernel
theorem dX4_sum_45 : decode cX4_sum 45 = .ok (.iinc 4 1, 3) := by decide +kernel
theorem dX4_sum_48 : decode cX4_sum 48 = .ok (.goto (-38), 3) := by decide +kernel
theorem dX4_sum_51 : decode cX4_sum 51 = .ok (.aload_n 2, 1) := by decide +kernel
theorem dX4_sum_52 : decode cX4_sum 52 = .ok (.areturn, 1) := by decide +kernel
theorem dX4_negative_0 : decode cX4_negative 0 = .ok (.aload_n 0, 1) := by decide +kernel
theorem dX4_negative_1 : decode cX4_negative 1 = .ok (.arraylength, 1) := by decide +kernel
theorem dX4_negative_2 : decode cX4_negative 2 = .ok (.newarray .int, 2) := by decide +kernel
theorem dX4_negative_4 : decode cX4_negative 4 = .ok (.astore_n 1, 1) := by decide +kernel
theorem dX4_negative_5 : decode cX4_negative 5 = .ok (.iconst 1, 1) := by decide +kernel
theorem dX4_negative_6 : decode cX4_negative 6 = .ok (.istore_n 2, 1) := by decide +kernel
theorem dX4_negative_7 : decode cX4_negative 7 = .ok (.iconst 0, 1) := by decide +kernel
theorem dX4_negative_8 : decode cX4_negative 8 = .ok (.istore_n 3, 1) := by decide +kernel
theorem dX4_negative_9 : decode cX4_negative 9 = .ok (.iload_n 3, 1) := by decide +kernel
theorem dX4_negative_10 : decode cX4_negative 10 = .ok (.aload_n 1, 1) := by decide +kernel
theorem dX4_negative_11 : decode cX4_negative 11 = .ok (.arraylength, 1) := by decide +kernel
theorem dX4_negative_12 : decode cX4_negative 12 = .ok (.if_icmp .ge 33, 3) := by decide +kernel
theorem dX4_negative_15 : decode cX4_negative 15 = .ok (.ldc 53, 2) := by decide +kernel
theorem dX4_negative_17 : decode cX4_negative 17 = .ok (.aload_n 0, 1) := by decide +kernel
theorem dX4_negative_18 : decode cX4_negative 18 = .ok (.iload_n 3, 1) := by decide +kernel
theorem dX4_negative_19 : decode cX4_negative 19 = .ok (.iaload, 1) := by decide +kernel
theorem dX4_negative_20 : decode cX4_negative 20 = .ok (.isub, 1) := by decide +kernel
theorem dX4_negative_21 : decode cX4_negative 21 = .ok (.iload_n 2, 1) := by decide +kernel
theorem dX4_negative_22 : decode cX4_negative 22 = .ok (.iadd, 1) := by decide +kernel
theorem dX4_negative_23 : decode cX4_negative 23 = .ok (.istore 4, 2) := by decide +kernel
theorem dX4_negative_25 : decode cX4_negative 25 = .ok (.aload_n 1, 1) := by decide +kernel
theorem dX4_negative_26 : decode cX4_negative 26 = .ok (.iload_n 3, 1) := by decide +kernel
theorem dX4_negative_27 : decode cX4_negative 27 = .ok (.iload 4, 2) := by decide +kernel
theorem dX4_negative_29 : decode cX4_negative 29 = .ok (.ldc 52, 2) := by decide +kernel
theorem dX4_negative_31 : decode cX4_negative 31 = .ok (.irem, 1) := by decide +kernel
theorem dX4_negative_32 : decode cX4_negative 32 = .ok (.iastore, 1) := by decide +kernel
theorem dX4_negative_33 : decode cX4_negative 33 = .ok (.iload 4, 2) := by decide +kernel
theorem dX4_negative_35 : decode cX4_negative 35 = .ok (.ldc 52, 2) := by decide +kernel
theorem dX4_negative_37 : decode cX4_negative 37 = .ok (.idiv, 1) := by decide +kernel
theorem dX4_negative_38 : decode cX4_negative 38 = .ok (.istore_n 2, 1) := by decide +kernel
theorem dX4_negative_39 : decode cX4_negative 39 = .ok (.iinc 3 1, 3) := by decide +kernel
theorem dX4_negative_42 : decode cX4_negative 42 = .ok (.goto (-33), 3) := by decide +kernel
theorem dX4_negative_45 : decode cX4_negative 45 = .ok (.aload_n 1, 1) := by decide +kernel
theorem dX4_negative_46 : decode cX4_negative 46 = .ok (.areturn, 1) := by decide +kernel
theorem dX4_part_0 : decode cX4_part 0 = .ok (.iload_n 1, 1) := by decide +kernel
theorem dX4_part_1 : decode cX4_part 1 = .ok (.newarray .int, 2) := by decide +kernel
theorem dX4_part_3 : decode cX4_part 3 = .ok (.astore_n 2, 1) := by decide +kernel
theorem dX4_part_4 : decode cX4_part 4 = .ok (.iconst 0, 1) := by decide +kernel
theorem dX4_part_5 : decode cX4_part 5 = .ok (.istore_n 3, 1) := by decide +kernel
theorem dX4_part_6 : decode cX4_part 6 = .ok (.iload_n 3, 1) := by decide +kernel
theorem dX4_part_7 : decode cX4_part 7 = .ok (.iload_n 1, 1) := by decide +kernel
theorem dX4_part_8 : decode cX4_part 8 = .ok (.if_icmp .ge 15, 3) := by decide +kernel
theorem dX4_part_11 : decode cX4_part 11 = .ok (.aload_n 2, 1) := by decide +kernel
theorem dX4_part_12 : decode cX4_part 12 = .ok (.iload_n 3, 1) := by decide +kernel
theorem dX4_part_13 : decode cX4_part 13 = .ok (.aload_n 0, 1) := by decide +kernel
theorem dX4_part_14 : decode cX4_part 14 = .ok (.iload_n 3, 1) := by decide +kernel
theorem dX4_part_15 : decode cX4_part 15 = .ok (.iaload, 1) := by decide +kernel
theorem dX4_part_16 : decode cX4_part 16 = .ok (.iastore, 1) := by decide +kernel
theorem dX4_part_17 : decode cX4_part 17 = .ok (.iinc 3 1, 3) := by decide +kernel
theorem dX4_part_20 : decode cX4_part 20 = .ok (.goto (-14), 3) := by decide +kernel
theorem dX4_part_23 : decode cX4_part 23 = .ok (.aload_n 2, 1) := by decide +kernel
theorem dX4_part_24 : decode cX4_part 24 = .ok (.areturn, 1) := by decide +kernel
set_option maxRecDepth 20000 in
theorem ggX4_of_X4_part : GoodIn wsX4_of wsX4_part := goodIn_r _ [5, 6] (by decide +kernel) (by decide +kernel)
set_option maxRecDepth 20000 in
theorem gX4_of_X4_part : GoodIn wsX4_of (va_wsS RX4 54 yX4_part wsX4_part) := goodIn_app (goodIn_of _ (by decide +kernel)) ggX4_of_X4_part
theorem dX4_of_0 : decode cX4_of 0 = .ok (.aload_n 0, 1) := by decide +kernel
theorem dX4_of_1 : decode cX4_of 1 = .ok (.getfield 11, 3) := by decide +kernel
theorem dX4_of_4 : decode cX4_of 4 = .ok (.iload_n 1, 1) := by decide +kernel
theorem dX4_of_5 : decode cX4_of 5 = .ok (.aaload, 1) := by decide +kernel
theorem dX4_of_6 : decode cX4_of 6 = .ok (.iload_n 2, 1) := by decide +kernel
theorem dX4_of_7 : decode cX4_of 7 = .ok (.ifCond .eq 7, 3) := by decide +kernel
theorem dX4_of_10 : decode cX4_of 10 = .ok (.iconst 2, 1) := by decide +kernel
theorem dX4_of_11 : decode cX4_of 11 = .ok (.goto 4, 3) := by decide +kernel
theorem dX4_of_14 : decode cX4_of 14 = .ok (.iconst 4, 1) := by decide +kernel
theorem dX4_of_15 : decode cX4_of 15 = .ok (.invokestatic 54, 3) := by decide +kernel
theorem dX4_of_18 : decode cX4_of 18 = .ok (.areturn, 1) := by decide +kernel
set_option maxRecDepth 20000 in
theorem ggX4_wide_X4_isNegative : GoodIn wsX4_wide wsX4_isNegative := goodIn_r _ [6, 7] (by decide +kernel) (by decide +kernel)
set_option maxRecDepth 20000 in
theorem gX4_wide_X4_isNegative : GoodIn wsX4_wide (va_wsS RX4 44 yX4_isNegative wsX4_isNegative) := goodIn_app (goodIn_of _ (by decide +kernel)) ggX4_wide_X4_isNegative
theorem dX4_wide_0 : decode cX4_wide 0 = .ok (.iconst 4, 1) := by decide +kernel
theorem dX4_wide_1 : decode cX4_wide 1 = .ok (.newarray .int, 2) := by decide +kernel
theorem dX4_wide_3 : decode cX4_wide 3 = .ok (.astore_n 1, 1) := by decide +kernel
theorem dX4_wide_4 : decode cX4_wide 4 = .ok (.iconst 0, 1) := by decide +kernel
theorem dX4_wide_5 : decode cX4_wide 5 = .ok (.istore_n 2, 1) := by decide +kernel
theorem dX4_wide_6 : decode cX4_wide 6 = .ok (.iload_n 2, 1) := by decide +kernel
theorem dX4_wide_7 : decode cX4_wide 7 = .ok (.iconst 4, 1) := by decide +kernel
theorem dX4_wide_8 : decode cX4_wide 8 = .ok (.if_icmp .ge 37, 3) := by decide +kernel
theorem dX4_wide_11 : decode cX4_wide 11 = .ok (.aload_n 1, 1) := by decide +kernel
theorem dX4_wide_12 : decode cX4_wide 12 = .ok (.iload_n 2, 1) := by decide +kernel
theorem dX4_wide_13 : decode cX4_wide 13 = .ok (.iload_n 2, 1) := by decide +kernel
theorem dX4_wide_14 : decode cX4_wide 14 = .ok (.aload_n 0, 1) := by decide +kernel
theorem dX4_wide_15 : decode cX4_wide 15 = .ok (.arraylength, 1) := by decide +kernel
theorem dX4_wide_16 : decode cX4_wide 16 = .ok (.if_icmp .ge 9, 3) := by decide +kernel
theorem dX4_wide_19 : decode cX4_wide 19 = .ok (.aload_n 0, 1) := by decide +kernel
theorem dX4_wide_20 : decode cX4_wide 20 = .ok (.iload_n 2, 1) := by decide +kernel
theorem dX4_wide_21 : decode cX4_wide 21 = .ok (.iaload, 1) := by decide +kernel
theorem dX4_wide_22 : decode cX4_wide 22 = .ok (.goto 16, 3) := by decide +kernel
theorem dX4_wide_25 : decode cX4_wide 25 = .ok (.aload_n 0, 1) := by decide +kernel
theorem dX4_wide_26 : decode cX4_wide 26 = .ok (.invokestatic 44, 3) := by decide +kernel
theorem dX4_wide_29 : decode cX4_wide 29 = .ok (.ifCond .eq 8, 3) := by decide +kernel
theorem dX4_wide_32 : decode cX4_wide 32 = .ok (.ldc 53, 2) := by decide +kernel
theorem dX4_wide_34 : decode cX4_wide 34 = .ok (.goto 4, 3) := by decide +kernel
theorem dX4_wide_37 : decode cX4_wide 37 = .ok (.iconst 0, 1) := by decide +kernel
theorem dX4_wide_38 : decode cX4_wide 38 = .ok (.iastore, 1) := by decide +kernel
theorem dX4_wide_39 : decode cX4_wide 39 = .ok (.iinc 2 1, 3) := by decide +kernel
theorem dX4_wide_42 : decode cX4_wide 42 = .ok (.goto (-36), 3) := by decide +kernel
theorem dX4_wide_45 : decode cX4_wide 45 = .ok (.aload_n 1, 1) := by decide +kernel
theorem dX4_wide_46 : decode cX4_wide 46 = .ok (.areturn, 1) := by decide +kernel
set_option maxRecDepth 20000 in
theorem ggX4_become_X4_wide : GoodIn wsX4_become wsX4_wide := goodIn_r _ [5, 6, 7, 8, 9, 4, 10, 11] (by decide +kernel) (by decide +kernel)
set_option maxRecDepth 20000 in
theorem gX4_become_X4_wide : GoodIn wsX4_become (va_wsS RX4 58 yX4_wide wsX4_wide) := goodIn_app (goodIn_of _ (by decide +kernel)) ggX4_become_X4_wide
set_option maxRecDepth 20000 in
theorem ggX4_become_X4_isSame : GoodIn wsX4_become wsX4_isSame := goodIn_r _ [14] (by decide +kernel) (by decide +kernel)
set_option maxRecDepth 20000 in
theorem gX4_become_X4_isSame : GoodIn wsX4_become (va_wsS RX4 62 yX4_isSame wsX4_isSame) := goodIn_app (goodIn_of _ (by decide +kernel)) ggX4_become_X4_isSame
theorem dX4_become_0 : decode cX4_become 0 = .ok (.aload_n 2, 1) := by decide +kernel
theorem dX4_become_1 : decode cX4_become 1 = .ok (.invokestatic 58, 3) := by decide +kernel
theorem dX4_become_4 : decode cX4_become 4 = .ok (.astore_n 3, 1) := by decide +kernel
theorem dX4_become_5 : decode cX4_become 5 = .ok (.aload_n 3, 1) := by decide +kernel
theorem dX4_become_6 : decode cX4_become 6 = .ok (.aload_n 0, 1) := by decide +kernel
theorem dX4_become_7 : decode cX4_become 7 = .ok (.getfield 11, 3) := by decide +kernel
theorem dX4_become_10 : decode cX4_become 10 = .ok (.iload_n 1, 1) := by decide +kernel
theorem dX4_become_11 : decode cX4_become 11 = .ok (.aaload, 1) := by decide +kernel
theorem dX4_become_12 : decode cX4_become 12 = .ok (.invokestatic 62, 3) := by decide +kernel
theorem dX4_become_15 : decode cX4_become 15 = .ok (.ifCond .ne 7, 3) := by decide +kernel
theorem dX4_become_18 : decode cX4_become 18 = .ok (.iconst 1, 1) := by decide +kernel
theorem dX4_become_19 : decode cX4_become 19 = .ok (.goto 4, 3) := by decide +kernel
theorem dX4_become_22 : decode cX4_become 22 = .ok (.iconst 0, 1) := by decide +kernel
theorem dX4_become_23 : decode cX4_become 23 = .ok (.istore 4, 2) := by decide +kernel
theorem dX4_become_25 : decode cX4_become 25 = .ok (.aload_n 0, 1) := by decide +kernel
theorem dX4_become_26 : decode cX4_become 26 = .ok (.getfield 11, 3) := by decide +kernel
theorem dX4_become_29 : decode cX4_become 29 = .ok (.iload_n 1, 1) := by decide +kernel
theorem dX4_become_30 : decode cX4_become 30 = .ok (.aload_n 3, 1) := by decide +kernel
theorem dX4_become_31 : decode cX4_become 31 = .ok (.aastore, 1) := by decide +kernel
theorem dX4_become_32 : decode cX4_become 32 = .ok (.iload 4, 2) := by decide +kernel
theorem dX4_become_34 : decode cX4_become 34 = .ok (.ireturn, 1) := by decide +kernel
theorem dX4_half_0 : decode cX4_half 0 = .ok (.aload_n 0, 1) := by decide +kernel
theorem dX4_half_1 : decode cX4_half 1 = .ok (.iload_n 1, 1) := by decide +kernel
theorem dX4_half_2 : decode cX4_half 2 = .ok (.iconst 1, 1) := by decide +kernel
theorem dX4_half_3 : decode cX4_half 3 = .ok (.iadd, 1) := by decide +kernel
theorem dX4_half_4 : decode cX4_half 4 = .ok (.iaload, 1) := by decide +kernel
theorem dX4_half_5 : decode cX4_half 5 = .ok (.ldc 43, 2) := by decide +kernel
theorem dX4_half_7 : decode cX4_half 7 = .ok (.if_icmp .lt 14, 3) := by decide +kernel
theorem dX4_half_10 : decode cX4_half 10 = .ok (.aload_n 0, 1) := by decide +kernel
theorem dX4_half_11 : decode cX4_half 11 = .ok (.iload_n 1, 1) := by decide +kernel
theorem dX4_half_12 : decode cX4_half 12 = .ok (.iconst 1, 1) := by decide +kernel
theorem dX4_half_13 : decode cX4_half 13 = .ok (.iadd, 1) := by decide +kernel
theorem dX4_half_14 : decode cX4_half 14 = .ok (.iaload, 1) := by decide +kernel
theorem dX4_half_15 : decode cX4_half 15 = .ok (.ldc 52, 2) := by decide +kernel
theorem dX4_half_17 : decode cX4_half 17 = .ok (.isub, 1) := by decide +kernel
theorem dX4_half_18 : decode cX4_half 18 = .ok (.goto 8, 3) := by decide +kernel
theorem dX4_half_21 : decode cX4_half 21 = .ok (.aload_n 0, 1) := by decide +kernel
theorem dX4_half_22 : decode cX4_half 22 = .ok (.iload_n 1, 1) := by decide +kernel
theorem dX4_half_23 : decode cX4_half 23 = .ok (.iconst 1, 1) := by decide +kernel
theorem dX4_half_24 : decode cX4_half 24 = .ok (.iadd, 1) := by decide +kernel
theorem dX4_half_25 : decode cX4_half 25 = .ok (.iaload, 1) := by decide +kernel
theorem dX4_half_26 : decode cX4_half 26 = .ok (.istore_n 2, 1) := by decide +kernel
theorem dX4_half_27 : decode cX4_half 27 = .ok (.iload_n 2, 1) := by decide +kernel
theorem dX4_half_28 : decode cX4_half 28 = .ok (.ldc 52, 2) := by decide +kernel
theorem dX4_half_30 : decode cX4_half 30 = .ok (.imul, 1) := by decide +kernel
theorem dX4_half_31 : decode cX4_half 31 = .ok (.aload_n 0, 1) := by decide +kernel
theorem dX4_half_32 : decode cX4_half 32 = .ok (.iload_n 1, 1) := by decide +kernel
theorem dX4_half_33 : decode cX4_half 33 = .ok (.iaload, 1) := by decide +kernel
theorem dX4_half_34 : decode cX4_half 34 = .ok (.iadd, 1) := by decide +kernel
theorem dX4_half_35 : decode cX4_half 35 = .ok (.ireturn, 1) := by decide +kernel
set_option maxRecDepth 20000 in
theorem ggX4_count_X4_bits : GoodIn wsX4_count wsX4_bits := goodIn_r _ [4] (by decide +kernel) (by decide +kernel)
set_option maxRecDepth 20000 in
theorem gX4_count_X4_bits : GoodIn wsX4_count (va_wsS RX4 66 yX4_bits wsX4_bits) := goodIn_app (goodIn_of _ (by decide +kernel)) ggX4_count_X4_bits
set_option maxRecDepth 20000 in
theorem ggX4_count_X4_bit : GoodIn wsX4_count wsX4_bit := goodIn_r _ [7, 8, 9, 3, 10] (by decide +kernel) (by decide +kernel)
set_option maxRecDepth 20000 in
theorem gX4_count_X4_bit : GoodIn wsX4_count (va_wsS RX4 39 yX4_bit wsX4_bit) := goodIn_app (goodIn_of _ (by decide +kernel)) ggX4_count_X4_bit
theorem dX4_count_0 : decode cX4_count 0 = .ok (.iconst 0, 1) := by decide +kernel
theorem dX4_count_1 : decode cX4_count 1 = .ok (.istore_n 1, 1) := by decide +kernel
theorem dX4_count_2 : decode cX4_count 2 = .ok (.iconst 0, 1) := by decide +kernel
theorem dX4_count_3 : decode cX4_count 3 = .ok (.istore_n 2, 1) := by decide +kernel
theorem dX4_count_4 : decode cX4_count 4 = .ok (.iload_n 2, 1) := by decide +kernel
theorem dX4_count_5 : decode cX4_count 5 = .ok (.aload_n 0, 1) := by decide +kernel
theorem dX4_count_6 : decode cX4_count 6 = .ok (.invokestatic 66, 3) := by decide +kernel
theorem dX4_count_9 : decode cX4_count 9 = .ok (.if_icmp .ge 17, 3) := by decide +kernel
theorem dX4_count_12 : decode cX4_count 12 = .ok (.iload_n 1, 1) := by decide +kernel
theorem dX4_count_13 : decode cX4_count 13 = .ok (.aload_n 0, 1) := by decide +kernel
theorem dX4_count_14 : decode cX4_count 14 = .ok (.iload_n 2, 1) := by decide +kernel
theorem dX4_count_15 : decode cX4_count 15 = .ok (.invokestatic 39, 3) := by decide +kernel
theorem dX4_count_18 : decode cX4_count 18 = .ok (.iadd, 1) := by decide +kernel
theorem dX4_count_19 : decode cX4_count 19 = .ok (.istore_n 1, 1) := by decide +kernel
theorem dX4_count_20 : decode cX4_count 20 = .ok (.iinc 2 1, 3) := by decide +kernel
theorem dX4_count_23 : decode cX4_count 23 = .ok (.goto (-19), 3) := by decide +kernel
theorem dX4_count_26 : decode cX4_count 26 = .ok (.iload_n 1, 1) := by decide +kernel
theorem dX4_count_27 : decode cX4_count 27 = .ok (.ireturn, 1) := by decide +kernel
set_option maxRecDepth 20000 in
theorem ggX4_one_X4_bits : GoodIn wsX4_one wsX4_bits := goodIn_r _ [4] (by decide +kernel) (by decide +kernel)
set_option maxRecDepth 20000 in
theorem gX4_one_X4_bits : GoodIn wsX4_one (va_wsS RX4 66 yX4_bits wsX4_bits) := goodIn_app (goodIn_of _ (by decide +kernel)) ggX4_one_X4_bits
set_option maxRecDepth 20000 in
theorem ggX4_one_X4_bit : GoodIn wsX4_one wsX4_bit := goodIn_r _ [7, 8, 9, 3, 10] (by decide +kernel) (by decide +kernel)
set_option maxRecDepth 20000 in
theorem gX4_one_X4_bit : GoodIn wsX4_one (va_wsS RX4 39 yX4_bit wsX4_bit) := goodIn_app (goodIn_of _ (by decide +kernel)) ggX4_one_X4_bit
theorem dX4_one_0 : decode cX4_one 0 = .ok (.iconst (-1), 1) := by decide +kernel
theorem dX4_one_1 : decode cX4_one 1 = .ok (.istore_n 2, 1) := by decide +kernel
theorem dX4_one_2 : decode cX4_one 2 = .ok (.iconst 0, 1) := by decide +kernel
theorem dX4_one_3 : decode cX4_one 3 = .ok (.istore_n 3, 1) := by decide +kernel
theorem dX4_one_4 : decode cX4_one 4 = .ok (.iload_n 3, 1) := by decide +kernel
theorem dX4_one_5 : decode cX4_one 5 = .ok (.aload_n 0, 1) := by decide +kernel
theorem dX4_one_6 : decode cX4_one 6 = .ok (.invokestatic 66, 3) := by decide +kernel
theorem dX4_one_9 : decode cX4_one 9 = .ok (.if_icmp .ge 29, 3) := by decide +kernel
theorem dX4_one_12 : decode cX4_one 12 = .ok (.aload_n 0, 1) := by decide +kernel
theorem dX4_one_13 : decode cX4_one 13 = .ok (.iload_n 3, 1) := by decide +kernel
theorem dX4_one_14 : decode cX4_one 14 = .ok (.invokestatic 39, 3) := by decide +kernel
theorem dX4_one_17 : decode cX4_one 17 = .ok (.iconst 1, 1) := by decide +kernel
theorem dX4_one_18 : decode cX4_one 18 = .ok (.if_icmp .ne 14, 3) := by decide +kernel
theorem dX4_one_21 : decode cX4_one 21 = .ok (.iload_n 1, 1) := by decide +kernel
theorem dX4_one_22 : decode cX4_one 22 = .ok (.ifCond .ne 8, 3) := by decide +kernel
theorem dX4_one_25 : decode cX4_one 25 = .ok (.iload_n 2, 1) := by decide +kernel
theorem dX4_one_26 : decode cX4_one 26 = .ok (.iconst (-1), 1) := by decide +kernel
theorem dX4_one_27 : decode cX4_one 27 = .ok (.if_icmp .ne 5, 3) := by decide +kernel
theorem dX4_one_30 : decode cX4_one 30 = .ok (.iload_n 3, 1) := by decide +kernel
theorem dX4_one_31 : decode cX4_one 31 = .ok (.istore_n 2, 1) := by decide +kernel
theorem dX4_one_32 : decode cX4_one 32 = .ok (.iinc 3 1, 3) := by decide +kernel
theorem dX4_one_35 : decode cX4_one 35 = .ok (.goto (-31), 3) := by decide +kernel
theorem dX4_one_38 : decode cX4_one 38 = .ok (.iload_n 2, 1) := by decide +kernel
theorem dX4_one_39 : decode cX4_one 39 = .ok (.ireturn, 1) := by decide +kernel
set_option maxRecDepth 20000 in
theorem ggX4_divided_X4_bits : GoodIn wsX4_divided wsX4_bits := goodIn_r _ [6] (by decide +kernel) (by decide +kernel)
set_option maxRecDepth 20000 in
theorem gX4_divided_X4_bits : GoodIn wsX4_divided (va_wsS RX4 66 yX4_bits wsX4_bits) := goodIn_app (goodIn_of _ (by decide +kernel)) ggX4_divided_X4_bits
set_option maxRecDepth 20000 in
theorem ggX4_divided_X4_isNegative : GoodIn wsX4_divided wsX4_isNegative := goodIn_r _ [9, 10] (by decide +kernel) (by decide +kernel)
set_option maxRecDepth 20000 in
theorem gX4_divided_X4_isNegative : GoodIn wsX4_divided (va_wsS RX4 44 yX4_isNegative wsX4_isNegative) := goodIn_app (goodIn_of _ (by decide +kernel)) ggX4_divided_X4_isNegative
set_option maxRecDepth 20000 in
theorem ggX4_divided_X4_sum : GoodIn wsX4_divided wsX4_sum := goodIn_r _ [13, 2, 14] (by decide +kernel) (by decide +kernel)
set_option maxRecDepth 20000 in
theorem gX4_divided_X4_sum : GoodIn wsX4_divided (va_wsS RX4 70 yX4_sum wsX4_sum) := goodIn_app (goodIn_of _ (by decide +kernel)) ggX4_divided_X4_sum
set_option maxRecDepth 20000 in
theorem ggX4_divided_X4_bit : GoodIn wsX4_divided wsX4_bit := goodIn_r _ [17, 18, 19, 5, 20] (by decide +kernel) (by decide +kernel)
set_option maxRecDepth 20000 in
theorem gX4_divided_X4_bit : GoodIn wsX4_divided (va_wsS RX4 39 yX4_bit wsX4_bit) := goodIn_app (goodIn_of _ (by decide +kernel)) ggX4_divided_X4_bit
set_option maxRecDepth 20000 in
theorem ggX4_divided_X4_compare : GoodIn wsX4_divided wsX4_compare := goodIn_r _ [23] (by decide +kernel) (by decide +kernel)
set_option maxRecDepth 20000 in
theorem gX4_divided_X4_compare : GoodIn wsX4_divided (va_wsS RX4 48 yX4_compare wsX4_compare) := goodIn_app (goodIn_of _ (by decide +kernel)) ggX4_divided_X4_compare
set_option maxRecDepth 20000 in
theorem ggX4_divided_X4_negative : GoodIn wsX4_divided wsX4_negative := goodIn_r _ [26, 2, 27, 14] (by decide +kernel) (by decide +kernel)
set_option maxRecDepth 20000 in
theorem gX4_divided_X4_negative : GoodIn wsX4_divided (va_wsS RX4 74 yX4_negative wsX4_negative) := goodIn_app (goodIn_of _ (by decide +kernel)) ggX4_divided_X4_negative
set_option maxRecDepth 20000 in
theorem ggX4_divided_X4_set : GoodIn wsX4_divided wsX4_set := goodIn_r _ [30, 15, 16, 5, 17, 18, 19, 20] (by decide +kernel) (by decide +kernel)
set_option maxRecDepth 20000 in
theorem gX4_divided_X4_set : GoodIn wsX4_divided (va_wsS RX4 77 yX4_set wsX4_set) := goodIn_app (goodIn_of _ (by decide +kernel)) ggX4_divided_X4_set
theorem dX4_divided_0 : decode cX4_divided 0 = .ok (.iconst 2, 1) := by decide +kernel
theorem dX4_divided_1 : decode cX4_divided 1 = .ok (.aload_n 0, 1) := by decide +kernel
theorem dX4_divided_2 : decode cX4_divided 2 = .ok (.arraylength, 1) := by decide +kernel
theorem dX4_divided_3 : decode cX4_divided 3 = .ok (.multianewarray 9 2, 4) := by decide +kernel
theorem dX4_divided_7 : decode cX4_divided 7 = .ok (.astore_n 2, 1) := by decide +kernel
theorem dX4_divided_8 : decode cX4_divided 8 = .ok (.aload_n 0, 1) := by decide +kernel
theorem dX4_divided_9 : decode cX4_divided 9 = .ok (.invokestatic 66, 3) := by decide +kernel
theorem dX4_divided_12 : decode cX4_divided 12 = .ok (.iconst 1, 1) := by decide +kernel
theorem dX4_divided_13 : decode cX4_divided 13 = .ok (.isub, 1) := by decide +kernel
theorem dX4_divided_14 : decode cX4_divided 14 = .ok (.istore_n 3, 1) := by decide +kernel
theorem dX4_divided_15 : decode cX4_divided 15 = .ok (.iload_n 3, 1) := by decide +kernel
theorem dX4_divided_16 : decode cX4_divided 16 = .ok (.ifCond .lt 81, 3) := by decide +kernel
theorem dX4_divided_19 : decode cX4_divided 19 = .ok (.aload_n 2, 1) := by decide +kernel
theorem dX4_divided_20 : decode cX4_divided 20 = .ok (.iconst 1, 1) := by decide +kernel
theorem dX4_divided_21 : decode cX4_divided 21 = .ok (.aaload, 1) := by decide +kernel
theorem dX4_divided_22 : decode cX4_divided 22 = .ok (.invokestatic 44, 3) := by decide +kernel
theorem dX4_divided_25 : decode cX4_divided 25 = .ok (.istore 4, 2) := by decide +kernel
theorem dX4_divided_27 : decode cX4_divided 27 = .ok (.aload_n 2, 1) := by decide +kernel
theorem dX4_divided_28 : decode cX4_divided 28 = .ok (.iconst 1, 1) := by decide +kernel
theorem dX4_divided_29 : decode cX4_divided 29 = .ok (.aload_n 2, 1) := by decide +kernel
theorem dX4_divided_30 : decode cX4_divided 30 = .ok (.iconst 1, 1) := by decide +kernel
theorem dX4_divided_31 : decode cX4_divided 31 = .ok (.aaload, 1) := by decide +kernel
theorem dX4_divided_32 : decode cX4_divided 32 = .ok (.aload_n 2, 1) := by decide +kernel
theorem dX4_divided_33 : decode cX4_divided 33 = .ok (.iconst 1, 1) := by decide +kernel
theorem dX4_divided_34 : decode cX4_divided 34 = .ok (.aaload, 1) := by decide +kernel
theorem dX4_divided_35 : decode cX4_divided 35 = .ok (.invokestatic 70, 3) := by decide +kernel
theorem dX4_divided_38 : decode cX4_divided 38 = .ok (.aastore, 1) := by decide +kernel
theorem dX4_divided_39 : decode cX4_divided 39 = .ok (.aload_n 2, 1) := by decide +kernel
theorem dX4_divided_40 : decode cX4_divided 40 = .ok (.iconst 1, 1) := by decide +kernel
theorem dX4_divided_41 : decode cX4_divided 41 = .ok (.aaload, 1) := by decide +kernel
theorem dX4_divided_42 : decode cX4_divided 42 = .ok (.iconst 0, 1) := by decide +kernel
theorem dX4_divided_43 : decode cX4_divided 43 = .ok (.dup2, 1) := by decide +kernel
theorem dX4_divided_44 : decode cX4_divided 44 = .ok (.iaload, 1) := by decide +kernel
theorem dX4_divided_45 : decode cX4_divided 45 = .ok (.aload_n 0, 1) := by decide +kernel
theorem dX4_divided_46 : decode cX4_divided 46 = .ok (.iload_n 3, 1) := by decide +kernel
theorem dX4_divided_47 : decode cX4_divided 47 = .ok (.invokestatic 39, 3) := by decide +kernel
theorem dX4_divided_50 : decode cX4_divided 50 = .ok (.iadd, 1) := by decide +kernel
theorem dX4_divided_51 : decode cX4_divided 51 = .ok (.iastore, 1) := by decide +kernel
theorem dX4_divided_52 : decode cX4_divided 52 = .ok (.iload 4, 2) := by decide +kernel
theorem dX4_divided_54 : decode cX4_divided 54 = .ok (.ifCond .ne 16, 3) := by decide +kernel
theorem dX4_divided_57 : decode cX4_divided 57 = .ok (.aload_n 2, 1) := by decide +kernel
theorem dX4_divided_58 : decode cX4_divided 58 = .ok (.iconst 1, 1) := by decide +kernel
theorem dX4_divided_59 : decode cX4_divided 59 = .ok (.aaload, 1) := by decide +kernel
theorem dX4_divided_60 : decode cX4_divided 60 = .ok (.aload_n 1, 1) := by decide +kernel
theorem dX4_divided_61 : decode cX4_divided 61 = .ok (.invokestatic 48, 3) := by decide +kernel
theorem dX4_divided_64 : decode cX4_divided 64 = .ok (.ifCond .ge 6, 3) := by decide +kernel
theorem dX4_divided_67 : decode cX4_divided 67 = .ok (.goto 24, 3) := by decide +kernel
theorem dX4_divided_70 : decode cX4_divided 70 = .ok (.aload_n 2, 1) := by decide +kernel
theorem dX4_divided_71 : decode cX4_divided 71 = .ok (.iconst 1, 1) := by decide +kernel
theorem dX4_divided_72 : decode cX4_divided 72 = .ok (.aload_n 2, 1) := by decide +kernel
theorem dX4_divided_73 : decode cX4_divided 73 = .ok (.iconst 1, 1) := by decide +kernel
theorem dX4_divided_74 : decode cX4_divided 74 = .ok (.aaload, 1) := by decide +kernel
theorem dX4_divided_75 : decode cX4_divided 75 = .ok (.aload_n 1, 1) := by decide +kernel
theorem dX4_divided_76 : decode cX4_divided 76 = .ok (.invokestatic 74, 3) := by decide +kernel
theorem dX4_divided_79 : decode cX4_divided 79 = .ok (.invokestatic 70, 3) := by decide +kernel
theorem dX4_divided_82 : decode cX4_divided 82 = .ok (.aastore, 1) := by decide +kernel
theorem dX4_divided_83 : decode cX4_divided 83 = .ok (.aload_n 2, 1) := by decide +kernel
theorem dX4_divided_84 : decode cX4_divided 84 = .ok (.iconst 0, 1) := by decide +kernel
theorem dX4_divided_85 : decode cX4_divided 85 = .ok (.aaload, 1) := by decide +kernel
theorem dX4_divided_86 : decode cX4_divided 86 = .ok (.iload_n 3, 1) := by decide +kernel
theorem dX4_divided_87 : decode cX4_divided 87 = .ok (.iconst 1, 1) := by decide +kernel
theorem dX4_divided_88 : decode cX4_divided 88 = .ok (.invokestatic 77, 3) := by decide +kernel
theorem dX4_divided_91 : decode cX4_divided 91 = .ok (.iinc 3 (-1), 3) := by decide +kernel
theorem dX4_divided_94 : decode cX4_divided 94 = .ok (.goto (-79), 3) := by decide +kernel
theorem dX4_divided_97 : decode cX4_divided 97 = .ok (.aload_n 2, 1) := by decide +kernel
theorem dX4_divided_98 : decode cX4_divided 98 = .ok (.areturn, 1) := by decide +kernel
theorem dX4_worth_0 : decode cX4_worth 0 = .ok (.iload_n 0, 1) := by decide +kernel
theorem dX4_worth_1 : decode cX4_worth 1 = .ok (.bipush 48, 2) := by decide +kernel
theorem dX4_worth_3 : decode cX4_worth 3 = .ok (.if_icmp .lt 14, 3) := by decide +kernel
theorem dX4_worth_6 : decode cX4_worth 6 = .ok (.iload_n 0, 1) := by decide +kernel
theorem dX4_worth_7 : decode cX4_worth 7 = .ok (.bipush 57, 2) := by decide +kernel
theorem dX4_worth_9 : decode cX4_worth 9 = .ok (.if_icmp .gt 8, 3) := by decide +kernel
theorem dX4_worth_12 : decode cX4_worth 12 = .ok (.iload_n 0, 1) := by decide +kernel
theorem dX4_worth_13 : decode cX4_worth 13 = .ok (.bipush 48, 2) := by decide +kernel
theorem dX4_worth_15 : decode cX4_worth 15 = .ok (.isub, 1) := by decide +kernel
theorem dX4_worth_16 : decode cX4_worth 16 = .ok (.ireturn, 1) := by decide +kernel
theorem dX4_worth_17 : decode cX4_worth 17 = .ok (.iload_n 0, 1) := by decide +kernel
theorem dX4_worth_18 : decode cX4_worth 18 = .ok (.bipush 97, 2) := by decide +kernel
theorem dX4_worth_20 : decode cX4_worth 20 = .ok (.if_icmp .lt 17, 3) := by decide +kernel
theorem dX4_worth_23 : decode cX4_worth 23 = .ok (.iload_n 0, 1) := by decide +kernel
theorem dX4_worth_24 : decode cX4_worth 24 = .ok (.bipush 122, 2) := by decide +kernel
theorem dX4_worth_26 : decode cX4_worth 26 = .ok (.if_icmp .gt 11, 3) := by decide +kernel
theorem dX4_worth_29 : decode cX4_worth 29 = .ok (.iload_n 0, 1) := by decide +kernel
theorem dX4_worth_30 : decode cX4_worth 30 = .ok (.bipush 97, 2) := by decide +kernel
theorem dX4_worth_32 : decode cX4_worth 32 = .ok (.isub, 1) := by decide +kernel
theorem dX4_worth_33 : decode cX4_worth 33 = .ok (.bipush 10, 2) := by decide +kernel
theorem dX4_worth_35 : decode cX4_worth 35 = .ok (.iadd, 1) := by decide +kernel
theorem dX4_worth_36 : decode cX4_worth 36 = .ok (.ireturn, 1) := by decide +kernel
theorem dX4_worth_37 : decode cX4_worth 37 = .ok (.iload_n 0, 1) := by decide +kernel
theorem dX4_worth_38 : decode cX4_worth 38 = .ok (.bipush 65, 2) := by decide +kernel
theorem dX4_worth_40 : decode cX4_worth 40 = .ok (.if_icmp .lt 19, 3) := by decide +kernel
theorem dX4_worth_43 : decode cX4_worth 43 = .ok (.iload_n 0, 1) := by decide +kernel
theorem dX4_worth_44 : decode cX4_worth 44 = .ok (.bipush 90, 2) := by decide +kernel
theorem dX4_worth_46 : decode cX4_worth 46 = .ok (.if_icmp .gt 13, 3) := by decide +kernel
theorem dX4_worth_49 : decode cX4_worth 49 = .ok (.iload_n 0, 1) := by decide +kernel
theorem dX4_worth_50 : decode cX4_worth 50 = .ok (.bipush 65, 2) := by decide +kernel
theorem dX4_worth_52 : decode cX4_worth 52 = .ok (.isub, 1) := by decide +kernel
theorem dX4_worth_53 : decode cX4_worth 53 = .ok (.bipush 10, 2) := by decide +kernel
theorem dX4_worth_55 : decode cX4_worth 55 = .ok (.iadd, 1) := by decide +kernel
theorem dX4_worth_56 : decode cX4_worth 56 = .ok (.goto 5, 3) := by decide +kernel
theorem dX4_worth_59 : decode cX4_worth 59 = .ok (.bipush 99, 2) := by decide +kernel
theorem dX4_worth_61 : decode cX4_worth 61 = .ok (.ireturn, 1) := by decide +kernel
theorem dX4_sign_0 : decode cX4_sign 0 = .ok (.iload_n 0, 1) := by decide +kernel
theorem dX4_sign_1 : decode cX4_sign 1 = .ok (.bipush 10, 2) := by decide +kernel
theorem dX4_sign_3 : decode cX4_sign 3 = .ok (.if_icmp .ge 10, 3) := by decide +kernel
theorem dX4_sign_6 : decode cX4_sign 6 = .ok (.bipush 48, 2) := by decide +kernel
theorem dX4_sign_8 : decode cX4_sign 8 = .ok (.iload_n 0, 1) := by decide +kernel
theorem dX4_sign_9 : decode cX4_sign 9 = .ok (.iadd, 1) := by decide +kernel
theorem dX4_sign_10 : decode cX4_sign 10 = .ok (.goto 10, 3) := by decide +kernel
theorem dX4_sign_13 : decode cX4_sign 13 = .ok (.bipush 97, 2) := by decide +kernel
theorem dX4_sign_15 : decode cX4_sign 15 = .ok (.iload_n 0, 1) := by decide +kernel
theorem dX4_sign_16 : decode cX4_sign 16 = .ok (.iadd, 1) := by decide +kernel
theorem dX4_sign_17 : decode cX4_sign 17 = .ok (.bipush 10, 2) := by decide +kernel
theorem dX4_sign_19 : decode cX4_sign 19 = .ok (.isub, 1) := by decide +kernel
theorem dX4_sign_20 : decode cX4_sign 20 = .ok (.i2c, 1) := by decide +kernel
theorem dX4_sign_21 : decode cX4_sign 21 = .ok (.ireturn, 1) := by decide +kernel
set_option maxRecDepth 20000 in
theorem ggX4_unsigned_J4_init_da8c8 : GoodIn wsX4_unsigned wsJ4_init_da8c8 := goodIn_r _ [13, 14, 15, 16, 17, 18, 19, 20, 21, 22, 23, 24, 25, 26, 27, 28, 29, 30, 31, 32, 209, 210, 211, 212] (by decide +kernel) (by decide +kernel)
set_option maxRecDepth 20000 in
theorem gX4_unsigned_J4_init_da8c8 : GoodIn wsX4_unsigned (wsJ4_init_da8c8) := ggX4_unsigned_J4_init_da8c8
set_option maxRecDepth 20000 in
theorem ggX4_unsigned_J4_length_8abf5 : GoodIn wsX4_unsigned wsJ4_length_8abf5 := goodIn_r _ [36, 37, 38, 39, 40, 16, 41, 42, 209, 210, 211, 212] (by decide +kernel) (by decide +kernel)
set_option maxRecDepth 20000 in
theorem gX4_unsigned_J4_length_8abf5 : GoodIn wsX4_unsigned (wsV RX4 89 RJ4 yJ4_length_8abf5 wsJ4_length_8abf5) := goodIn_app (goodIn_of _ (by decide +kernel)) ggX4_unsigned_J4_length_8abf5
set_option maxRecDepth 20000 in
theorem ggX4_unsigned_X4_isZero : GoodIn wsX4_unsigned wsX4_isZero := goodIn_r _ [46] (by decide +kernel) (by decide +kernel)
set_option maxRecDepth 20000 in
theorem gX4_unsigned_X4_isZero : GoodIn wsX4_unsigned (va_wsS RX4 93 yX4_isZero wsX4_isZero) := goodIn_app (goodIn_of _ (by decide +kernel)) ggX4_unsigned_X4_isZero
set_option maxRecDepth 20000 in
theorem ggX4_unsigned_X4_sign : GoodIn wsX4_unsigned wsX4_sign := goodIn_r _ [49] (by decide +kernel) (by decide +kernel)
set_option maxRecDepth 20000 in
theorem gX4_unsigned_X4_sign : GoodIn wsX4_unsigned (va_wsS RX4 96 yX4_sign wsX4_sign) := goodIn_app (goodIn_of _ (by decide +kernel)) ggX4_unsigned_X4_sign
set_option maxRecDepth 20000 in
theorem ggX4_unsigned_J4_append_cf468 : GoodIn wsX4_unsigned wsJ4_append_cf468 := goodIn_r _ [53, 54, 55, 39, 56, 16, 57, 42, 23, 58, 59, 60, 61, 62, 24, 63, 64, 65, 66, 67, 68, 69, 70, 71, 72, 73, 74, 75, 76, 77, 78, 79, 80, 81, 82, 83, 84, 85, 86, 3, 4, 87, 88, 22, 89, 90, 91, 92, 93, 94, 95, 96, 97, 98, 99, 100, 21, 101, 102, 103, 104, 105, 106, 107, 108, 109, 25, 26, 27, 28, 29, 30, 31, 32, 110, 111, 112, 113, 114, 115, 116, 117, 118, 119, 120, 121, 122, 123, 124, 125, 126, 127, 128, 129, 130, 131, 132, 133, 134, 135, 136, 137, 138, 139, 140, 141, 142, 143, 144, 145, 146, 147, 148, 209, 210, 211, 212] (by decide +kernel) (by decide +kernel)
set_option maxRecDepth 20000 in
theorem gX4_unsigned_J4_append_cf468 : GoodIn wsX4_unsigned (wsV RX4 100 RJ4 yJ4_append_cf468 wsJ4_append_cf468) := goodIn_app (goodIn_of _ (by decide +kernel)) ggX4_unsigned_J4_append_cf468
set_option maxRecDepth 20000 in
theorem ggX4_unsigned_J4_charAt_5068e : GoodIn wsX4_unsigned wsJ4_charAt_5068e := goodIn_r _ [152, 153, 154, 39, 155, 16, 156, 24, 23, 42, 157, 90, 75, 91, 158, 144, 124, 145, 126, 146, 147, 129, 148, 159, 160, 27, 161, 134, 135, 136, 119, 120, 121, 209, 210, 211, 212] (by decide +kernel) (by decide +kernel)
set_option maxRecDepth 20000 in
theorem gX4_unsigned_J4_charAt_5068e : GoodIn wsX4_unsigned (wsV RX4 104 RJ4 yJ4_charAt_5068e wsJ4_charAt_5068e) := goodIn_app (goodIn_of _ (by decide +kernel)) ggX4_unsigned_J4_charAt_5068e
set_option maxRecDepth 20000 in
theorem ggX4_unsigned_J4_toString_0e30d : GoodIn wsX4_unsigned wsJ4_toString_0e30d := goodIn_r _ [165, 166, 167, 124, 168, 169, 170, 171, 172, 173, 174, 19, 20, 175, 176, 177, 178, 179, 180, 181, 182, 16, 183, 23, 184, 38, 185, 186, 34, 9, 36, 37, 39, 40, 41, 42, 187, 97, 98, 99, 100, 21, 24, 188, 189, 83, 190, 85, 86, 3, 4, 87, 88, 191, 192, 193, 22, 89, 90, 75, 91, 92, 93, 94, 95, 194, 195, 196, 197, 8, 198, 199, 27, 200, 201, 202, 203, 116, 117, 118, 119, 120, 121, 122, 123, 125, 126, 127, 128, 129, 130, 204, 160, 161, 134, 135, 136, 29, 30, 31, 32, 205, 206, 207, 208, 213, 214, 215, 216, 209, 210, 211, 212] (by decide +kernel) (by decide +kernel)
set_option maxRecDepth 20000 in
theorem gX4_unsigned_J4_toString_0e30d : GoodIn wsX4_unsigned (wsV RX4 107 RJ4 yJ4_toString_0e30d wsJ4_toString_0e30d) := goodIn_app (goodIn_of _ (by decide +kernel)) ggX4_unsigned_J4_toString_0e30d
theorem dX4_unsigned_0 : decode cX4_unsigned 0 = .ok (.aload_n 0, 1) := by decide +kernel
theorem dX4_unsigned_1 : decode cX4_unsigned 1 = .ok (.invokevirtual 81, 3) := by decide +kernel
theorem dX4_unsigned_4 : decode cX4_unsigned 4 = .ok (.checkcast 82, 3) := by decide +kernel
theorem dX4_unsigned_7 : decode cX4_unsigned 7 = .ok (.astore_n 2, 1) := by decide +kernel
theorem dX4_unsigned_8 : decode cX4_unsigned 8 = .ok (.new 86, 3) := by decide +kernel
theorem dX4_unsigned_11 : decode cX4_unsigned 11 = .ok (.dup, 1) := by decide +kernel
theorem dX4_unsigned_12 : decode cX4_unsigned 12 = .ok (.invokespecial 88, 3) := by decide +kernel
theorem dX4_unsigned_15 : decode cX4_unsigned 15 = .ok (.astore_n 3, 1) := by decide +kernel
theorem dX4_unsigned_16 : decode cX4_unsigned 16 = .ok (.aload_n 3, 1) := by decide +kernel
theorem dX4_unsigned_17 : decode cX4_unsigned 17 = .ok (.invokevirtual 89, 3) := by decide +kernel
theorem dX4_unsigned_20 : decode cX4_unsigned 20 = .ok (.ifCond .eq 10, 3) := by decide +kernel
theorem dX4_unsigned_23 : decode cX4_unsigned 23 = .ok (.aload_n 2, 1) := by decide +kernel
theorem dX4_unsigned_24 : decode cX4_unsigned 24 = .ok (.invokestatic 93, 3) := by decide +kernel
theorem dX4_unsigned_27 : decode cX4_unsigned 27 = .ok (.ifCond .ne 62, 3) := by decide +kernel
theorem dX4_unsigned_30 : decode cX4_unsigned 30 = .ok (.iconst 0, 1) := by decide +kernel
theorem dX4_unsigned_31 : decode cX4_unsigned 31 = .ok (.istore 4, 2) := by decide +kernel
theorem dX4_unsigned_33 : decode cX4_unsigned 33 = .ok (.aload_n 2, 1) := by decide +kernel
theorem dX4_unsigned_34 : decode cX4_unsigned 34 = .ok (.arraylength, 1) := by decide +kernel
theorem dX4_unsigned_35 : decode cX4_unsigned 35 = .ok (.iconst 1, 1) := by decide +kernel
theorem dX4_unsigned_36 : decode cX4_unsigned 36 = .ok (.isub, 1) := by decide +kernel
theorem dX4_unsigned_37 : decode cX4_unsigned 37 = .ok (.istore 5, 2) := by decide +kernel
theorem dX4_unsigned_39 : decode cX4_unsigned 39 = .ok (.iload 5, 2) := by decide +kernel
theorem dX4_unsigned_41 : decode cX4_unsigned 41 = .ok (.ifCond .lt 35, 3) := by decide +kernel
theorem dX4_unsigned_44 : decode cX4_unsigned 44 = .ok (.iload 4, 2) := by decide +kernel
theorem dX4_unsigned_46 : decode cX4_unsigned 46 = .ok (.ldc 52, 2) := by decide +kernel
theorem dX4_unsigned_48 : decode cX4_unsigned 48 = .ok (.imul, 1) := by decide +kernel
theorem dX4_unsigned_49 : decode cX4_unsigned 49 = .ok (.aload_n 2, 1) := by decide +kernel
theorem dX4_unsigned_50 : decode cX4_unsigned 50 = .ok (.iload 5, 2) := by decide +kernel
theorem dX4_unsigned_52 : decode cX4_unsigned 52 = .ok (.iaload, 1) := by decide +kernel
theorem dX4_unsigned_53 : decode cX4_unsigned 53 = .ok (.iadd, 1) := by decide +kernel
theorem dX4_unsigned_54 : decode cX4_unsigned 54 = .ok (.istore 6, 2) := by decide +kernel
theorem dX4_unsigned_56 : decode cX4_unsigned 56 = .ok (.aload_n 2, 1) := by decide +kernel
theorem dX4_unsigned_57 : decode cX4_unsigned 57 = .ok (.iload 5, 2) := by decide +kernel
theorem dX4_unsigned_59 : decode cX4_unsigned 59 = .ok (.iload 6, 2) := by decide +kernel
theorem dX4_unsigned_61 : decode cX4_unsigned 61 = .ok (.iload_n 1, 1) := by decide +kernel
theorem dX4_unsigned_62 : decode cX4_unsigned 62 = .ok (.idiv, 1) := by decide +kernel
theorem dX4_unsigned_63 : decode cX4_unsigned 63 = .ok (.iastore, 1) := by decide +kernel
theorem dX4_unsigned_64 : decode cX4_unsigned 64 = .ok (.iload 6, 2) := by decide +kernel
theorem dX4_unsigned_66 : decode cX4_unsigned 66 = .ok (.iload_n 1, 1) := by decide +kernel
theorem dX4_unsigned_67 : decode cX4_unsigned 67 = .ok (.irem, 1) := by decide +kernel
theorem dX4_unsigned_68 : decode cX4_unsigned 68 = .ok (.istore 4, 2) := by decide +kernel
theorem dX4_unsigned_70 : decode cX4_unsigned 70 = .ok (.iinc 5 (-1), 3) := by decide +kernel
theorem dX4_unsigned_73 : decode cX4_unsigned 73 = .ok (.goto (-34), 3) := by decide +kernel
theorem dX4_unsigned_76 : decode cX4_unsigned 76 = .ok (.aload_n 3, 1) := by decide +kernel
theorem dX4_unsigned_77 : decode cX4_unsigned 77 = .ok (.iload 4, 2) := by decide +kernel
theorem dX4_unsigned_79 : decode cX4_unsigned 79 = .ok (.invokestatic 96, 3) := by decide +kernel
theorem dX4_unsigned_82 : decode cX4_unsigned 82 = .ok (.invokevirtual 100, 3) := by decide +kernel
theorem dX4_unsigned_85 : decode cX4_unsigned 85 = .ok (.pop, 1) := by decide +kernel
theorem dX4_unsigned_86 : decode cX4_unsigned 86 = .ok (.goto (-70), 3) := by decide +kernel
theorem dX4_unsigned_89 : decode cX4_unsigned 89 = .ok (.new 86, 3) := by decide +kernel
theorem dX4_unsigned_92 : decode cX4_unsigned 92 = .ok (.dup, 1) := by decide +kernel
theorem dX4_unsigned_93 : decode cX4_unsigned 93 = .ok (.invokespecial 88, 3) := by decide +kernel
theorem dX4_unsigned_96 : decode cX4_unsigned 96 = .ok (.astore 4, 2) := by decide +kernel
theorem dX4_unsigned_98 : decode cX4_unsigned 98 = .ok (.aload_n 3, 1) := by decide +kernel
theorem dX4_unsigned_99 : decode cX4_unsigned 99 = .ok (.invokevirtual 89, 3) := by decide +kernel
theorem dX4_unsigned_102 : decode cX4_unsigned 102 = .ok (.iconst 1, 1) := by decide +kernel
theorem dX4_unsigned_103 : decode cX4_unsigned 103 = .ok (.isub, 1) := by decide +kernel
theorem dX4_unsigned_104 : decode cX4_unsigned 104 = .ok (.istore 5, 2) := by decide +kernel
theorem dX4_unsigned_106 : decode cX4_unsigned 106 = .ok (.iload 5, 2) := by decide +kernel
theorem dX4_unsigned_108 : decode cX4_unsigned 108 = .ok (.ifCond .lt 21, 3) := by decide +kernel
theorem dX4_unsigned_111 : decode cX4_unsigned 111 = .ok (.aload 4, 2) := by decide +kernel
theorem dX4_unsigned_113 : decode cX4_unsigned 113 = .ok (.aload_n 3, 1) := by decide +kernel
theorem dX4_unsigned_114 : decode cX4_unsigned 114 = .ok (.iload 5, 2) := by decide +kernel
theorem dX4_unsigned_116 : decode cX4_unsigned 116 = .ok (.invokevirtual 104, 3) := by decide +kernel
theorem dX4_unsigned_119 : decode cX4_unsigned 119 = .ok (.invokevirtual 100, 3) := by decide +kernel
theorem dX4_unsigned_122 : decode cX4_unsigned 122 = .ok (.pop, 1) := by decide +kernel
theorem dX4_unsigned_123 : decode cX4_unsigned 123 = .ok (.iinc 5 (-1), 3) := by decide +kernel
theorem dX4_unsigned_126 : decode cX4_unsigned 126 = .ok (.goto (-20), 3) := by decide +kernel
theorem dX4_unsigned_129 : decode cX4_unsigned 129 = .ok (.aload 4, 2) := by decide +kernel
theorem dX4_unsigned_131 : decode cX4_unsigned 131 = .ok (.invokevirtual 107, 3) := by decide +kernel
theorem dX4_unsigned_134 : decode cX4_unsigned 134 = .ok (.areturn, 1) := by decide +kernel
set_option maxRecDepth 20000 in
theorem ggX4_told_X4_isNegative : GoodIn wsX4_told wsX4_isNegative := goodIn_r _ [7, 8] (by decide +kernel) (by decide +kernel)
set_option maxRecDepth 20000 in
theorem gX4_told_X4_isNegative : GoodIn wsX4_told (va_wsS RX4 44 yX4_isNegative wsX4_isNegative) := goodIn_app (goodIn_of _ (by decide +kernel)) ggX4_told_X4_isNegative
set_option maxRecDepth 20000 in
theorem ggX4_told_J4_init_da8c8 : GoodIn wsX4_told wsJ4_init_da8c8 := goodIn_r _ [11, 12, 13, 14, 15, 16, 17, 18, 19, 20, 21, 22, 23, 24, 25, 26, 27, 28, 29, 30, 271, 272, 273, 274] (by decide +kernel) (by decide +kernel)
set_option maxRecDepth 20000 in
theorem gX4_told_J4_init_da8c8 : GoodIn wsX4_told (wsJ4_init_da8c8) := ggX4_told_J4_init_da8c8
set_option maxRecDepth 20000 in
theorem ggX4_told_J4_append_15ec4 : GoodIn wsX4_told wsJ4_append_15ec4 := goodIn_r _ [34, 35, 36, 37, 38, 14, 39, 40, 41, 42, 43, 44, 45, 21, 46, 47, 48, 49, 50, 22, 51, 52, 53, 54, 55, 56, 57, 58, 59, 60, 61, 62, 63, 64, 65, 66, 67, 68, 69, 70, 71, 72, 73, 74, 75, 76, 77, 78, 20, 79, 80, 81, 82, 83, 84, 85, 86, 87, 88, 89, 90, 19, 91, 92, 25, 93, 94, 95, 96, 97, 98, 99, 100, 101, 102, 103, 104, 105, 106, 107, 108, 109, 110, 111, 112, 113, 114, 115, 116, 117, 118, 119, 120, 121, 122, 123, 124, 125, 126, 127, 128, 129, 130, 131, 132, 133, 134, 135, 136, 137, 138, 139, 140, 141, 23, 24, 26, 27, 28, 29, 30, 142, 143, 144, 145, 146, 147, 148, 149, 150, 151, 152, 153, 154, 155, 156, 157, 158, 159, 160, 161, 162, 163, 271, 272, 273, 274, 275, 276, 277, 278] (by decide +kernel) (by decide +kernel)
set_option maxRecDepth 20000 in
theorem gX4_told_J4_append_15ec4 : GoodIn wsX4_told (wsV RX4 113 RJ4 yJ4_append_15ec4 wsJ4_append_15ec4) := goodIn_app (goodIn_of _ (by decide +kernel)) ggX4_told_J4_append_15ec4
set_option maxRecDepth 20000 in
theorem ggX4_told_X4_negative : GoodIn wsX4_told wsX4_negative := goodIn_r _ [166, 167, 168, 169] (by decide +kernel) (by decide +kernel)
set_option maxRecDepth 20000 in
theorem gX4_told_X4_negative : GoodIn wsX4_told (va_wsS RX4 74 yX4_negative wsX4_negative) := goodIn_app (goodIn_of _ (by decide +kernel)) ggX4_told_X4_negative
set_option maxRecDepth 20000 in
theorem ggX4_told_X4_unsigned : GoodIn wsX4_told wsX4_unsigned := goodIn_r _ [172, 173, 174, 75, 76, 175, 176, 1, 2, 3, 169, 9, 10, 11, 12, 13, 14, 15, 16, 17, 18, 19, 20, 21, 22, 23, 24, 25, 26, 27, 28, 29, 30, 177, 178, 179, 180, 181, 182, 37, 183, 184, 40, 185, 186, 6, 187, 188, 189, 190, 191, 192, 193, 194, 195, 196, 197, 198, 46, 47, 48, 49, 50, 51, 52, 53, 54, 55, 56, 57, 58, 59, 60, 61, 62, 63, 64, 65, 66, 67, 68, 69, 70, 71, 72, 73, 74, 77, 78, 79, 80, 81, 82, 83, 84, 85, 86, 87, 88, 89, 90, 199, 200, 144, 201, 137, 138, 139, 140, 141, 142, 143, 145, 146, 147, 148, 149, 150, 151, 98, 99, 100, 152, 153, 103, 154, 105, 155, 156, 108, 157, 110, 111, 112, 94, 113, 114, 202, 203, 204, 205, 206, 207, 208, 209, 210, 211, 212, 213, 214, 215, 216, 217, 218, 219, 220, 221, 222, 223, 224, 225, 226, 227, 228, 229, 230, 231, 232, 233, 234, 235, 236, 237, 238, 239, 125, 119, 124, 240, 241, 242, 243, 244, 245, 246, 247, 248, 249, 250, 251, 252, 253, 254, 255, 256, 257, 258, 259, 260, 261, 262, 263, 264, 265, 266, 267, 268, 269, 270, 271, 272, 273, 274, 275, 276, 277, 278] (by decide +kernel) (by decide +kernel)
set_option maxRecDepth 20000 in
theorem gX4_told_X4_unsigned : GoodIn wsX4_told (va_wsS RX4 116 yX4_unsigned wsX4_unsigned) := goodIn_app (goodIn_of _ (by decide +kernel)) ggX4_told_X4_unsigned
set_option maxRecDepth 20000 in
theorem ggX4_told_J4_toString_0e30d : GoodIn wsX4_told wsJ4_toString_0e30d := goodIn_r _ [230, 231, 232, 103, 233, 234, 235, 236, 237, 238, 239, 17, 18, 125, 119, 124, 240, 241, 242, 243, 244, 14, 245, 21, 246, 182, 247, 248, 178, 3, 180, 181, 37, 183, 184, 40, 249, 87, 88, 89, 90, 19, 22, 250, 251, 71, 252, 73, 74, 75, 76, 77, 78, 253, 254, 255, 20, 79, 80, 63, 81, 82, 83, 84, 85, 256, 257, 258, 259, 2, 260, 261, 25, 262, 263, 264, 265, 149, 150, 151, 98, 99, 100, 152, 153, 154, 105, 155, 156, 108, 157, 266, 225, 226, 94, 113, 114, 27, 28, 29, 30, 267, 268, 269, 270, 275, 276, 277, 278, 271, 272, 273, 274] (by decide +kernel) (by decide +kernel)
set_option maxRecDepth 20000 in
theorem gX4_told_J4_toString_0e30d : GoodIn wsX4_told (wsV RX4 107 RJ4 yJ4_toString_0e30d wsJ4_toString_0e30d) := goodIn_app (goodIn_of _ (by decide +kernel)) ggX4_told_J4_toString_0e30d
theorem dX4_told_0 : decode cX4_told 0 = .ok (.iload_n 2, 1) := by decide +kernel
theorem dX4_told_1 : decode cX4_told 1 = .ok (.ifCond .eq 39, 3) := by decide +kernel
theorem dX4_told_4 : decode cX4_told 4 = .ok (.aload_n 0, 1) := by decide +kernel
theorem dX4_told_5 : decode cX4_told 5 = .ok (.invokestatic 44, 3) := by decide +kernel
theorem dX4_told_8 : decode cX4_told 8 = .ok (.ifCond .eq 32, 3) := by decide +kernel
theorem dX4_told_11 : decode cX4_told 11 = .ok (.new 86, 3) := by decide +kernel
theorem dX4_told_14 : decode cX4_told 14 = .ok (.dup, 1) := by decide +kernel
theorem dX4_told_15 : decode cX4_told 15 = .ok (.invokespecial 88, 3) := by decide +kernel
theorem dX4_told_18 : decode cX4_told 18 = .ok (.ldc 111, 2) := by decide +kernel
theorem dX4_told_20 : decode cX4_told 20 = .ok (.invokevirtual 113, 3) := by decide +kernel
theorem dX4_told_23 : decode cX4_told 23 = .ok (.aload_n 0, 1) := by decide +kernel
theorem dX4_told_24 : decode cX4_told 24 = .ok (.invokestatic 74, 3) := by decide +kernel
theorem dX4_told_27 : decode cX4_told 27 = .ok (.iload_n 1, 1) := by decide +kernel
theorem dX4_told_28 : decode cX4_told 28 = .ok (.invokestatic 116, 3) := by decide +kernel
theorem dX4_told_31 : decode cX4_told 31 = .ok (.invokevirtual 113, 3) := by decide +kernel
theorem dX4_told_34 : decode cX4_told 34 = .ok (.invokevirtual 107, 3) := by decide +kernel
theorem dX4_told_37 : decode cX4_told 37 = .ok (.goto 8, 3) := by decide +kernel
theorem dX4_told_40 : decode cX4_told 40 = .ok (.aload_n 0, 1) := by decide +kernel
theorem dX4_told_41 : decode cX4_told 41 = .ok (.iload_n 1, 1) := by decide +kernel
theorem dX4_told_42 : decode cX4_told 42 = .ok (.invokestatic 116, 3) := by decide +kernel
theorem dX4_told_45 : decode cX4_told 45 = .ok (.areturn, 1) := by decide +kernel
theorem dX4_size_0 : decode cX4_size 0 = .ok (.iload_n 0, 1) := by decide +kernel
theorem dX4_size_1 : decode cX4_size 1 = .ok (.iconst 2, 1) := by decide +kernel
theorem dX4_size_2 : decode cX4_size 2 = .ok (.if_icmp .ge 7, 3) := by decide +kernel
theorem dX4_size_5 : decode cX4_size 5 = .ok (.iconst 2, 1) := by decide +kernel
theorem dX4_size_6 : decode cX4_size 6 = .ok (.goto 4, 3) := by decide +kernel
theorem dX4_size_9 : decode cX4_size 9 = .ok (.iconst 4, 1) := by decide +kernel
theorem dX4_size_10 : decode cX4_size 10 = .ok (.ireturn, 1) := by decide +kernel
set_option maxRecDepth 20000 in
theorem ggX4_writtenNow_X4_of : GoodIn wsX4_writtenNow wsX4_of := goodIn_r _ [5, 6, 7, 8, 4, 9, 10, 282, 283, 284, 285, 286, 287, 288, 289, 290, 291] (by decide +kernel) (by decide +kernel)
set_option maxRecDepth 20000 in
theorem gX4_writtenNow_X4_of : GoodIn wsX4_writtenNow (wsV RX4 120 RX4 yX4_of wsX4_of) := goodIn_app (goodIn_of _ (by decide +kernel)) ggX4_writtenNow_X4_of
set_option maxRecDepth 20000 in
theorem ggX4_writtenNow_X4_told : GoodIn wsX4_writtenNow wsX4_told := goodIn_r _ [13, 14, 15, 16, 17, 18, 4, 19, 20, 21, 22, 23, 24, 25, 26, 27, 28, 29, 30, 31, 32, 33, 34, 35, 36, 37, 38, 39, 40, 41, 42, 43, 44, 45, 46, 47, 48, 49, 50, 51, 52, 53, 54, 55, 56, 57, 58, 59, 60, 61, 62, 63, 64, 65, 66, 67, 68, 69, 70, 71, 72, 73, 74, 75, 76, 77, 78, 79, 80, 81, 82, 83, 84, 85, 86, 87, 88, 89, 90, 91, 92, 93, 94, 95, 96, 97, 98, 99, 100, 101, 102, 103, 104, 105, 106, 107, 108, 109, 110, 111, 112, 113, 114, 115, 116, 117, 118, 119, 120, 121, 122, 123, 124, 125, 126, 127, 128, 129, 130, 131, 132, 133, 134, 135, 136, 137, 138, 139, 140, 141, 142, 143, 144, 145, 146, 147, 148, 149, 150, 151, 152, 153, 154, 155, 156, 157, 158, 159, 160, 161, 162, 163, 164, 165, 166, 167, 168, 169, 170, 171, 172, 173, 174, 175, 176, 177, 178, 10, 179, 180, 181, 182, 183, 184, 185, 186, 187, 188, 189, 190, 191, 192, 193, 194, 195, 196, 197, 198, 199, 200, 201, 202, 203, 204, 205, 206, 207, 208, 209, 210, 211, 212, 213, 214, 215, 216, 217, 218, 219, 220, 221, 222, 223, 224, 225, 226, 227, 228, 229, 230, 231, 232, 233, 234, 235, 236, 237, 238, 239, 240, 241, 242, 243, 244, 245, 246, 247, 248, 249, 250, 251, 252, 253, 254, 255, 256, 257, 258, 259, 260, 261, 262, 263, 264, 265, 266, 267, 268, 269, 270, 271, 272, 273, 274, 275, 276, 277, 278, 279, 280, 281, 292, 293, 294, 295, 296, 297, 298, 299] (by decide +kernel) (by decide +kernel)
set_option maxRecDepth 20000 in
theorem gX4_writtenNow_X4_told : GoodIn wsX4_writtenNow (va_wsS RX4 124 yX4_told wsX4_told) := goodIn_app (goodIn_of _ (by decide +kernel)) ggX4_writtenNow_X4_told
theorem dX4_writtenNow_0 : decode cX4_writtenNow 0 = .ok (.aload_n 0, 1) := by decide +kernel
theorem dX4_writtenNow_1 : decode cX4_writtenNow 1 = .ok (.iload_n 1, 1) := by decide +kernel
theorem dX4_writtenNow_2 : decode cX4_writtenNow 2 = .ok (.iload_n 3, 1) := by decide +kernel
theorem dX4_writtenNow_3 : decode cX4_writtenNow 3 = .ok (.iconst 2, 1) := by decide +kernel
theorem dX4_writtenNow_4 : decode cX4_writtenNow 4 = .ok (.if_icmp .ge 7, 3) := by decide +kernel
theorem dX4_writtenNow_7 : decode cX4_writtenNow 7 = .ok (.iconst 1, 1) := by decide +kernel
theorem dX4_writtenNow_8 : decode cX4_writtenNow 8 = .ok (.goto 4, 3) := by decide +kernel
theorem dX4_writtenNow_11 : decode cX4_writtenNow 11 = .ok (.iconst 0, 1) := by decide +kernel
theorem dX4_writtenNow_12 : decode cX4_writtenNow 12 = .ok (.invokevirtual 120, 3) := by decide +kernel
theorem dX4_writtenNow_15 : decode cX4_writtenNow 15 = .ok (.iload_n 2, 1) := by decide +kernel
theorem dX4_writtenNow_16 : decode cX4_writtenNow 16 = .ok (.iload_n 3, 1) := by decide +kernel
theorem dX4_writtenNow_17 : decode cX4_writtenNow 17 = .ok (.iconst 2, 1) := by decide +kernel
theorem dX4_writtenNow_18 : decode cX4_writtenNow 18 = .ok (.irem, 1) := by decide +kernel
theorem dX4_writtenNow_19 : decode cX4_writtenNow 19 = .ok (.ifCond .ne 7, 3) := by decide +kernel
theorem dX4_writtenNow_22 : decode cX4_writtenNow 22 = .ok (.iconst 1, 1) := by decide +kernel
theorem dX4_writtenNow_23 : decode cX4_writtenNow 23 = .ok (.goto 4, 3) := by decide +kernel
theorem dX4_writtenNow_26 : decode cX4_writtenNow 26 = .ok (.iconst 0, 1) := by decide +kernel
theorem dX4_writtenNow_27 : decode cX4_writtenNow 27 = .ok (.invokestatic 124, 3) := by decide +kernel
theorem dX4_writtenNow_30 : decode cX4_writtenNow 30 = .ok (.areturn, 1) := by decide +kernel
set_option maxRecDepth 20000 in
theorem ggX4_said_J0_length_8abf5 : GoodIn wsX4_said wsJ0_length_8abf5 := goodIn_r _ [7, 8, 9, 10, 11, 6, 12, 13, 14, 73, 74, 75, 76] (by decide +kernel) (by decide +kernel)
set_option maxRecDepth 20000 in
theorem gX4_said_J0_length_8abf5 : GoodIn wsX4_said (wsV RX4 128 RJ0 yJ0_length_8abf5 wsJ0_length_8abf5) := goodIn_app (goodIn_of _ (by decide +kernel)) ggX4_said_J0_length_8abf5
set_option maxRecDepth 20000 in
theorem ggX4_said_J0_charAt_5068e : GoodIn wsX4_said wsJ0_charAt_5068e := goodIn_r _ [18, 8, 19, 20, 21, 6, 22, 13, 14, 23, 24, 25, 26, 27, 28, 29, 30, 31, 32, 33, 34, 35, 36, 37, 38, 39, 40, 41, 42, 43, 44, 45, 46, 47, 48, 49, 50, 51, 73, 74, 75, 76] (by decide +kernel) (by decide +kernel)
set_option maxRecDepth 20000 in
theorem gX4_said_J0_charAt_5068e : GoodIn wsX4_said (wsV RX4 131 RJ0 yJ0_charAt_5068e wsJ0_charAt_5068e) := goodIn_app (goodIn_of _ (by decide +kernel)) ggX4_said_J0_charAt_5068e
set_option maxRecDepth 20000 in
theorem ggX4_said_X4_size : GoodIn wsX4_said wsX4_size := goodIn_r _ [55] (by decide +kernel) (by decide +kernel)
set_option maxRecDepth 20000 in
theorem gX4_said_X4_size : GoodIn wsX4_said (va_wsS RX4 132 yX4_size wsX4_size) := goodIn_app (goodIn_of _ (by decide +kernel)) ggX4_said_X4_size
set_option maxRecDepth 20000 in
theorem ggX4_said_X4_worth : GoodIn wsX4_said wsX4_worth := goodIn_r _ [58] (by decide +kernel) (by decide +kernel)
set_option maxRecDepth 20000 in
theorem gX4_said_X4_worth : GoodIn wsX4_said (va_wsS RX4 135 yX4_worth wsX4_worth) := goodIn_app (goodIn_of _ (by decide +kernel)) ggX4_said_X4_worth
set_option maxRecDepth 20000 in
theorem ggX4_said_X4_ranged : GoodIn wsX4_said wsX4_ranged := goodIn_r _ [61, 62, 63, 54, 64, 1, 65, 2, 66, 67, 68, 69, 70, 71, 72] (by decide +kernel) (by decide +kernel)
set_option maxRecDepth 20000 in
theorem gX4_said_X4_ranged : GoodIn wsX4_said (va_wsS RX4 139 yX4_ranged wsX4_ranged) := goodIn_app (goodIn_of _ (by decide +kernel)) ggX4_said_X4_ranged
theorem dX4_said_0 : decode cX4_said 0 = .ok (.aload_n 0, 1) := by decide +kernel
theorem dX4_said_1 : decode cX4_said 1 = .ok (.invokevirtual 128, 3) := by decide +kernel
theorem dX4_said_4 : decode cX4_said 4 = .ok (.ifCond .le 23, 3) := by decide +kernel
theorem dX4_said_7 : decode cX4_said 7 = .ok (.aload_n 0, 1) := by decide +kernel
theorem dX4_said_8 : decode cX4_said 8 = .ok (.iconst 0, 1) := by decide +kernel
theorem dX4_said_9 : decode cX4_said 9 = .ok (.invokevirtual 131, 3) := by decide +kernel
theorem dX4_said_12 : decode cX4_said 12 = .ok (.bipush 45, 2) := by decide +kernel
theorem dX4_said_14 : decode cX4_said 14 = .ok (.if_icmp .ne 13, 3) := by decide +kernel
theorem dX4_said_17 : decode cX4_said 17 = .ok (.iload_n 2, 1) := by decide +kernel
theorem dX4_said_18 : decode cX4_said 18 = .ok (.iconst 2, 1) := by decide +kernel
theorem dX4_said_19 : decode cX4_said 19 = .ok (.irem, 1) := by decide +kernel
theorem dX4_said_20 : decode cX4_said 20 = .ok (.ifCond .ne 7, 3) := by decide +kernel
theorem dX4_said_23 : decode cX4_said 23 = .ok (.iconst 1, 1) := by decide +kernel
theorem dX4_said_24 : decode cX4_said 24 = .ok (.goto 4, 3) := by decide +kernel
theorem dX4_said_27 : decode cX4_said 27 = .ok (.iconst 0, 1) := by decide +kernel
theorem dX4_said_28 : decode cX4_said 28 = .ok (.istore_n 3, 1) := by decide +kernel
theorem dX4_said_29 : decode cX4_said 29 = .ok (.iload_n 3, 1) := by decide +kernel
theorem dX4_said_30 : decode cX4_said 30 = .ok (.ifCond .ne 20, 3) := by decide +kernel
theorem dX4_said_33 : decode cX4_said 33 = .ok (.aload_n 0, 1) := by decide +kernel
theorem dX4_said_34 : decode cX4_said 34 = .ok (.invokevirtual 128, 3) := by decide +kernel
theorem dX4_said_37 : decode cX4_said 37 = .ok (.ifCond .le 17, 3) := by decide +kernel
theorem dX4_said_40 : decode cX4_said 40 = .ok (.aload_n 0, 1) := by decide +kernel
theorem dX4_said_41 : decode cX4_said 41 = .ok (.iconst 0, 1) := by decide +kernel
theorem dX4_said_42 : decode cX4_said 42 = .ok (.invokevirtual 131, 3) := by decide +kernel
theorem dX4_said_45 : decode cX4_said 45 = .ok (.bipush 43, 2) := by decide +kernel
theorem dX4_said_47 : decode cX4_said 47 = .ok (.if_icmp .ne 7, 3) := by decide +kernel
theorem dX4_said_50 : decode cX4_said 50 = .ok (.iconst 1, 1) := by decide +kernel
theorem dX4_said_51 : decode cX4_said 51 = .ok (.goto 4, 3) := by decide +kernel
theorem dX4_said_54 : decode cX4_said 54 = .ok (.iconst 0, 1) := by decide +kernel
theorem dX4_said_55 : decode cX4_said 55 = .ok (.istore 4, 2) := by decide +kernel
theorem dX4_said_57 : decode cX4_said 57 = .ok (.iload_n 2, 1) := by decide +kernel
theorem dX4_said_58 : decode cX4_said 58 = .ok (.invokestatic 132, 3) := by decide +kernel
theorem dX4_said_61 : decode cX4_said 61 = .ok (.newarray .int, 2) := by decide +kernel
theorem dX4_said_63 : decode cX4_said 63 = .ok (.astore 5, 2) := by decide +kernel
theorem dX4_said_65 : decode cX4_said 65 = .ok (.iload 4, 2) := by decide +kernel
theorem dX4_said_67 : decode cX4_said 67 = .ok (.aload_n 0, 1) := by decide +kernel
theorem dX4_said_68 : decode cX4_said 68 = .ok (.invokevirtual 128, 3) := by decide +kernel
theorem dX4_said_71 : decode cX4_said 71 = .ok (.if_icmp .ne 5, 3) := by decide +kernel
theorem dX4_said_74 : decode cX4_said 74 = .ok (.aconst_null, 1) := by decide +kernel
theorem dX4_said_75 : decode cX4_said 75 = .ok (.areturn, 1) := by decide +kernel
theorem dX4_said_76 : decode cX4_said 76 = .ok (.iload 4, 2) := by decide +kernel
theorem dX4_said_78 : decode cX4_said 78 = .ok (.istore 6, 2) := by decide +kernel
theorem dX4_said_80 : decode cX4_said 80 = .ok (.iload 6, 2) := by decide +kernel
theorem dX4_said_82 : decode cX4_said 82 = .ok (.aload_n 0, 1) := by decide +kernel
theorem dX4_said_83 : decode cX4_said 83 = .ok (.invokevirtual 128, 3) := by decide +kernel
theorem dX4_said_86 : decode cX4_said 86 = .ok (.if_icmp .ge 81, 3) := by decide +kernel
theorem dX4_said_89 : decode cX4_said 89 = .ok (.aload_n 0, 1) := by decide +kernel
theorem dX4_said_90 : decode cX4_said 90 = .ok (.iload 6, 2) := by decide +kernel
theorem dX4_said_92 : decode cX4_said 92 = .ok (.invokevirtual 131, 3) := by decide +kernel
theorem dX4_said_95 : decode cX4_said 95 = .ok (.invokestatic 135, 3) := by decide +kernel
theorem dX4_said_98 : decode cX4_said 98 = .ok (.istore 7, 2) := by decide +kernel
theorem dX4_said_100 : decode cX4_said 100 = .ok (.iload 7, 2) := by decide +kernel
theorem dX4_said_102 : decode cX4_said 102 = .ok (.iload_n 1, 1) := by decide +kernel
theorem dX4_said_103 : decode cX4_said 103 = .ok (.if_icmp .lt 5, 3) := by decide +kernel
theorem dX4_said_106 : decode cX4_said 106 = .ok (.aconst_null, 1) := by decide +kernel
theorem dX4_said_107 : decode cX4_said 107 = .ok (.areturn, 1) := by decide +kernel
theorem dX4_said_108 : decode cX4_said 108 = .ok (.iconst 0, 1) := by decide +kernel
theorem dX4_said_109 : decode cX4_said 109 = .ok (.istore 8, 2) := by decide +kernel
theorem dX4_said_111 : decode cX4_said 111 = .ok (.iload 8, 2) := by decide +kernel
theorem dX4_said_113 : decode cX4_said 113 = .ok (.aload 5, 2) := by decide +kernel
theorem dX4_said_115 : decode cX4_said 115 = .ok (.arraylength, 1) := by decide +kernel
theorem dX4_said_116 : decode cX4_said 116 = .ok (.if_icmp .ge 38, 3) := by decide +kernel
theorem dX4_said_119 : decode cX4_said 119 = .ok (.aload 5, 2) := by decide +kernel
theorem dX4_said_121 : decode cX4_said 121 = .ok (.iload 8, 2) := by decide +kernel
theorem dX4_said_123 : decode cX4_said 123 = .ok (.iaload, 1) := by decide +kernel
theorem dX4_said_124 : decode cX4_said 124 = .ok (.iload_n 1, 1) := by decide +kernel
theorem dX4_said_125 : decode cX4_said 125 = .ok (.imul, 1) := by decide +kernel
theorem dX4_said_126 : decode cX4_said 126 = .ok (.iload 7, 2) := by decide +kernel
theorem dX4_said_128 : decode cX4_said 128 = .ok (.iadd, 1) := by decide +kernel
theorem dX4_said_129 : decode cX4_said 129 = .ok (.istore 9, 2) := by decide +kernel
theorem dX4_said_131 : decode cX4_said 131 = .ok (.aload 5, 2) := by decide +kernel
theorem dX4_said_133 : decode cX4_said 133 = .ok (.iload 8, 2) := by decide +kernel
theorem dX4_said_135 : decode cX4_said 135 = .ok (.iload 9, 2) := by decide +kernel
theorem dX4_said_137 : decode cX4_said 137 = .ok (.ldc 52, 2) := by decide +kernel
theorem dX4_said_139 : decode cX4_said 139 = .ok (.irem, 1) := by decide +kernel
theorem dX4_said_140 : decode cX4_said 140 = .ok (.iastore, 1) := by decide +kernel
theorem dX4_said_141 : decode cX4_said 141 = .ok (.iload 9, 2) := by decide +kernel
theorem dX4_said_143 : decode cX4_said 143 = .ok (.ldc 52, 2) := by decide +kernel
theorem dX4_said_145 : decode cX4_said 145 = .ok (.idiv, 1) := by decide +kernel
theorem dX4_said_146 : decode cX4_said 146 = .ok (.istore 7, 2) := by decide +kernel
theorem dX4_said_148 : decode cX4_said 148 = .ok (.iinc 8 1, 3) := by decide +kernel
theorem dX4_said_151 : decode cX4_said 151 = .ok (.goto (-40), 3) := by decide +kernel
theorem dX4_said_154 : decode cX4_said 154 = .ok (.iload 7, 2) := by decide +kernel
theorem dX4_said_156 : decode cX4_said 156 = .ok (.ifCond .le 5, 3) := by decide +kernel
theorem dX4_said_159 : decode cX4_said 159 = .ok (.aconst_null, 1) := by decide +kernel
theorem dX4_said_160 : decode cX4_said 160 = .ok (.areturn, 1) := by decide +kernel
theorem dX4_said_161 : decode cX4_said 161 = .ok (.iinc 6 1, 3) := by decide +kernel
theorem dX4_said_164 : decode cX4_said 164 = .ok (.goto (-84), 3) := by decide +kernel
theorem dX4_said_167 : decode cX4_said 167 = .ok (.aload 5, 2) := by decide +kernel
theorem dX4_said_169 : decode cX4_said 169 = .ok (.iload_n 3, 1) := by decide +kernel
theorem dX4_said_170 : decode cX4_said 170 = .ok (.iload_n 2, 1) := by decide +kernel
theorem dX4_said_171 : decode cX4_said 171 = .ok (.iconst 2, 1) := by decide +kernel
theorem dX4_said_172 : decode cX4_said 172 = .ok (.irem, 1) := by decide +kernel
theorem dX4_said_173 : decode cX4_said 173 = .ok (.ifCond .ne 7, 3) := by decide +kernel
theorem dX4_said_176 : decode cX4_said 176 = .ok (.iconst 1, 1) := by decide +kernel
theorem dX4_said_177 : decode cX4_said 177 = .ok (.goto 4, 3) := by decide +kernel
theorem dX4_said_180 : decode cX4_said 180 = .ok (.iconst 0, 1) := by decide +kernel
theorem dX4_said_181 : decode cX4_said 181 = .ok (.invokestatic 139, 3) := by decide +kernel
theorem dX4_said_184 : decode cX4_said 184 = .ok (.areturn, 1) := by decide +kernel
set_option maxRecDepth 20000 in
theorem ggX4_ranged_X4_negative : GoodIn wsX4_ranged wsX4_negative := goodIn_r _ [4, 5, 6, 7] (by decide +kernel) (by decide +kernel)
set_option maxRecDepth 20000 in
theorem gX4_ranged_X4_negative : GoodIn wsX4_ranged (va_wsS RX4 74 yX4_negative wsX4_negative) := goodIn_app (goodIn_of _ (by decide +kernel)) ggX4_ranged_X4_negative
set_option maxRecDepth 20000 in
theorem ggX4_ranged_X4_isSame : GoodIn wsX4_ranged wsX4_isSame := goodIn_r _ [10] (by decide +kernel) (by decide +kernel)
set_option maxRecDepth 20000 in
theorem gX4_ranged_X4_isSame : GoodIn wsX4_ranged (va_wsS RX4 62 yX4_isSame wsX4_isSame) := goodIn_app (goodIn_of _ (by decide +kernel)) ggX4_ranged_X4_isSame
set_option maxRecDepth 20000 in
theorem ggX4_ranged_X4_isNegative : GoodIn wsX4_ranged wsX4_isNegative := goodIn_r _ [13, 14] (by decide +kernel) (by decide +kernel)
set_option maxRecDepth 20000 in
theorem gX4_ranged_X4_isNegative : GoodIn wsX4_ranged (va_wsS RX4 44 yX4_isNegative wsX4_isNegative) := goodIn_app (goodIn_of _ (by decide +kernel)) ggX4_ranged_X4_isNegative
theorem dX4_ranged_0 : decode cX4_ranged 0 = .ok (.iload_n 1, 1) := by decide +kernel
theorem dX4_ranged_1 : decode cX4_ranged 1 = .ok (.ifCond .eq 18, 3) := by decide +kernel
theorem dX4_ranged_4 : decode cX4_ranged 4 = .ok (.aload_n 0, 1) := by decide +kernel
theorem dX4_ranged_5 : decode cX4_ranged 5 = .ok (.invokestatic 74, 3) := by decide +kernel
theorem dX4_ranged_8 : decode cX4_ranged 8 = .ok (.aload_n 0, 1) := by decide +kernel
theorem dX4_ranged_9 : decode cX4_ranged 9 = .ok (.invokestatic 62, 3) := by decide +kernel
theorem dX4_ranged_12 : decode cX4_ranged 12 = .ok (.ifCond .eq 7, 3) := by decide +kernel
theorem dX4_ranged_15 : decode cX4_ranged 15 = .ok (.iconst 1, 1) := by decide +kernel
theorem dX4_ranged_16 : decode cX4_ranged 16 = .ok (.goto 4, 3) := by decide +kernel
theorem dX4_ranged_19 : decode cX4_ranged 19 = .ok (.iconst 0, 1) := by decide +kernel
theorem dX4_ranged_20 : decode cX4_ranged 20 = .ok (.istore_n 3, 1) := by decide +kernel
theorem dX4_ranged_21 : decode cX4_ranged 21 = .ok (.iload_n 2, 1) := by decide +kernel
theorem dX4_ranged_22 : decode cX4_ranged 22 = .ok (.ifCond .eq 16, 3) := by decide +kernel
theorem dX4_ranged_25 : decode cX4_ranged 25 = .ok (.aload_n 0, 1) := by decide +kernel
theorem dX4_ranged_26 : decode cX4_ranged 26 = .ok (.invokestatic 44, 3) := by decide +kernel
theorem dX4_ranged_29 : decode cX4_ranged 29 = .ok (.ifCond .eq 9, 3) := by decide +kernel
theorem dX4_ranged_32 : decode cX4_ranged 32 = .ok (.iload_n 3, 1) := by decide +kernel
theorem dX4_ranged_33 : decode cX4_ranged 33 = .ok (.ifCond .ne 5, 3) := by decide +kernel
theorem dX4_ranged_36 : decode cX4_ranged 36 = .ok (.aconst_null, 1) := by decide +kernel
theorem dX4_ranged_37 : decode cX4_ranged 37 = .ok (.areturn, 1) := by decide +kernel
theorem dX4_ranged_38 : decode cX4_ranged 38 = .ok (.iload_n 1, 1) := by decide +kernel
theorem dX4_ranged_39 : decode cX4_ranged 39 = .ok (.ifCond .eq 10, 3) := by decide +kernel
theorem dX4_ranged_42 : decode cX4_ranged 42 = .ok (.aload_n 0, 1) := by decide +kernel
theorem dX4_ranged_43 : decode cX4_ranged 43 = .ok (.invokestatic 74, 3) := by decide +kernel
theorem dX4_ranged_46 : decode cX4_ranged 46 = .ok (.goto 4, 3) := by decide +kernel
theorem dX4_ranged_49 : decode cX4_ranged 49 = .ok (.aload_n 0, 1) := by decide +kernel
theorem dX4_ranged_50 : decode cX4_ranged 50 = .ok (.areturn, 1) := by decide +kernel
theorem dX4_ofInt_0 : decode cX4_ofInt 0 = .ok (.iload_n 0, 1) := by decide +kernel
theorem dX4_ofInt_1 : decode cX4_ofInt 1 = .ok (.ldc 52, 2) := by decide +kernel
theorem dX4_ofInt_3 : decode cX4_ofInt 3 = .ok (.irem, 1) := by decide +kernel
theorem dX4_ofInt_4 : decode cX4_ofInt 4 = .ok (.istore_n 1, 1) := by decide +kernel
theorem dX4_ofInt_5 : decode cX4_ofInt 5 = .ok (.iload_n 1, 1) := by decide +kernel
theorem dX4_ofInt_6 : decode cX4_ofInt 6 = .ok (.ifCond .ge 8, 3) := by decide +kernel
theorem dX4_ofInt_9 : decode cX4_ofInt 9 = .ok (.iload_n 1, 1) := by decide +kernel
theorem dX4_ofInt_10 : decode cX4_ofInt 10 = .ok (.ldc 52, 2) := by decide +kernel
theorem dX4_ofInt_12 : decode cX4_ofInt 12 = .ok (.iadd, 1) := by decide +kernel
theorem dX4_ofInt_13 : decode cX4_ofInt 13 = .ok (.istore_n 1, 1) := by decide +kernel
theorem dX4_ofInt_14 : decode cX4_ofInt 14 = .ok (.iload_n 0, 1) := by decide +kernel
theorem dX4_ofInt_15 : decode cX4_ofInt 15 = .ok (.iload_n 1, 1) := by decide +kernel
theorem dX4_ofInt_16 : decode cX4_ofInt 16 = .ok (.isub, 1) := by decide +kernel
theorem dX4_ofInt_17 : decode cX4_ofInt 17 = .ok (.ldc 52, 2) := by decide +kernel
theorem dX4_ofInt_19 : decode cX4_ofInt 19 = .ok (.idiv, 1) := by decide +kernel
theorem dX4_ofInt_20 : decode cX4_ofInt 20 = .ok (.istore_n 2, 1) := by decide +kernel
theorem dX4_ofInt_21 : decode cX4_ofInt 21 = .ok (.iconst 2, 1) := by decide +kernel
theorem dX4_ofInt_22 : decode cX4_ofInt 22 = .ok (.newarray .int, 2) := by decide +kernel
theorem dX4_ofInt_24 : decode cX4_ofInt 24 = .ok (.dup, 1) := by decide +kernel
theorem dX4_ofInt_25 : decode cX4_ofInt 25 = .ok (.iconst 0, 1) := by decide +kernel
theorem dX4_ofInt_26 : decode cX4_ofInt 26 = .ok (.iload_n 1, 1) := by decide +kernel
theorem dX4_ofInt_27 : decode cX4_ofInt 27 = .ok (.iastore, 1) := by decide +kernel
theorem dX4_ofInt_28 : decode cX4_ofInt 28 = .ok (.dup, 1) := by decide +kernel
theorem dX4_ofInt_29 : decode cX4_ofInt 29 = .ok (.iconst 1, 1) := by decide +kernel
theorem dX4_ofInt_30 : decode cX4_ofInt 30 = .ok (.iload_n 2, 1) := by decide +kernel
theorem dX4_ofInt_31 : decode cX4_ofInt 31 = .ok (.ifCond .ge 10, 3) := by decide +kernel
theorem dX4_ofInt_34 : decode cX4_ofInt 34 = .ok (.iload_n 2, 1) := by decide +kernel
theorem dX4_ofInt_35 : decode cX4_ofInt 35 = .ok (.ldc 52, 2) := by decide +kernel
theorem dX4_ofInt_37 : decode cX4_ofInt 37 = .ok (.iadd, 1) := by decide +kernel
theorem dX4_ofInt_38 : decode cX4_ofInt 38 = .ok (.goto 4, 3) := by decide +kernel
theorem dX4_ofInt_41 : decode cX4_ofInt 41 = .ok (.iload_n 2, 1) := by decide +kernel
theorem dX4_ofInt_42 : decode cX4_ofInt 42 = .ok (.iastore, 1) := by decide +kernel
theorem dX4_ofInt_43 : decode cX4_ofInt 43 = .ok (.areturn, 1) := by decide +kernel
set_option maxRecDepth 20000 in
theorem ggX4_put_X4_isCell : GoodIn wsX4_put wsX4_isCell := goodIn_r _ [7, 8, 9, 6, 10] (by decide +kernel) (by decide +kernel)
set_option maxRecDepth 20000 in
theorem gX4_put_X4_isCell : GoodIn wsX4_put (va_wsS RX4 143 yX4_isCell wsX4_isCell) := goodIn_app (goodIn_of _ (by decide +kernel)) ggX4_put_X4_isCell
set_option maxRecDepth 20000 in
theorem ggX4_put_X4_refuse : GoodIn wsX4_put wsX4_refuse := goodIn_r _ [14, 1, 31, 32, 33, 34, 35, 36, 37, 38, 39, 40] (by decide +kernel) (by decide +kernel)
set_option maxRecDepth 20000 in
theorem gX4_put_X4_refuse : GoodIn wsX4_put (wsV RX4 147 RX4 yX4_refuse wsX4_refuse) := goodIn_app (goodIn_of _ (by decide +kernel)) ggX4_put_X4_refuse
set_option maxRecDepth 20000 in
theorem ggX4_put_X4_ofInt : GoodIn wsX4_put wsX4_ofInt := goodIn_r _ [17, 18, 3] (by decide +kernel) (by decide +kernel)
set_option maxRecDepth 20000 in
theorem gX4_put_X4_ofInt : GoodIn wsX4_put (va_wsS RX4 150 yX4_ofInt wsX4_ofInt) := goodIn_app (goodIn_of _ (by decide +kernel)) ggX4_put_X4_ofInt
set_option maxRecDepth 20000 in
theorem ggX4_put_X4_count : GoodIn wsX4_put wsX4_count := goodIn_r _ [21, 22, 23, 6, 24, 25, 26, 27, 28, 29, 30] (by decide +kernel) (by decide +kernel)
set_option maxRecDepth 20000 in
theorem gX4_put_X4_count : GoodIn wsX4_put (va_wsS RX4 154 yX4_count wsX4_count) := goodIn_app (goodIn_of _ (by decide +kernel)) ggX4_put_X4_count
theorem dX4_put_0 : decode cX4_put 0 = .ok (.aload_n 0, 1) := by decide +kernel
theorem dX4_put_1 : decode cX4_put 1 = .ok (.iconst 0, 1) := by decide +kernel
theorem dX4_put_2 : decode cX4_put 2 = .ok (.putfield 27, 3) := by decide +kernel
theorem dX4_put_5 : decode cX4_put 5 = .ok (.iload_n 1, 1) := by decide +kernel
theorem dX4_put_6 : decode cX4_put 6 = .ok (.invokestatic 143, 3) := by decide +kernel
theorem dX4_put_9 : decode cX4_put 9 = .ok (.ifCond .ne 9, 3) := by decide +kernel
theorem dX4_put_12 : decode cX4_put 12 = .ok (.aload_n 0, 1) := by decide +kernel
theorem dX4_put_13 : decode cX4_put 13 = .ok (.iconst 1, 1) := by decide +kernel
theorem dX4_put_14 : decode cX4_put 14 = .ok (.invokevirtual 147, 3) := by decide +kernel
theorem dX4_put_17 : decode cX4_put 17 = .ok (.ireturn, 1) := by decide +kernel
theorem dX4_put_18 : decode cX4_put 18 = .ok (.iload_n 3, 1) := by decide +kernel
theorem dX4_put_19 : decode cX4_put 19 = .ok (.invokestatic 150, 3) := by decide +kernel
theorem dX4_put_22 : decode cX4_put 22 = .ok (.astore 4, 2) := by decide +kernel
theorem dX4_put_24 : decode cX4_put 24 = .ok (.iload_n 2, 1) := by decide +kernel
theorem dX4_put_25 : decode cX4_put 25 = .ok (.invokestatic 150, 3) := by decide +kernel
theorem dX4_put_28 : decode cX4_put 28 = .ok (.astore 5, 2) := by decide +kernel
theorem dX4_put_30 : decode cX4_put 30 = .ok (.aload_n 0, 1) := by decide +kernel
theorem dX4_put_31 : decode cX4_put 31 = .ok (.getfield 11, 3) := by decide +kernel
theorem dX4_put_34 : decode cX4_put 34 = .ok (.iload_n 1, 1) := by decide +kernel
theorem dX4_put_35 : decode cX4_put 35 = .ok (.iconst 4, 1) := by decide +kernel
theorem dX4_put_36 : decode cX4_put 36 = .ok (.newarray .int, 2) := by decide +kernel
theorem dX4_put_38 : decode cX4_put 38 = .ok (.dup, 1) := by decide +kernel
theorem dX4_put_39 : decode cX4_put 39 = .ok (.iconst 0, 1) := by decide +kernel
theorem dX4_put_40 : decode cX4_put 40 = .ok (.aload 4, 2) := by decide +kernel
theorem dX4_put_42 : decode cX4_put 42 = .ok (.iconst 0, 1) := by decide +kernel
theorem dX4_put_43 : decode cX4_put 43 = .ok (.iaload, 1) := by decide +kernel
theorem dX4_put_44 : decode cX4_put 44 = .ok (.iastore, 1) := by decide +kernel
theorem dX4_put_45 : decode cX4_put 45 = .ok (.dup, 1) := by decide +kernel
theorem dX4_put_46 : decode cX4_put 46 = .ok (.iconst 1, 1) := by decide +kernel
theorem dX4_put_47 : decode cX4_put 47 = .ok (.aload 4, 2) := by decide +kernel
theorem dX4_put_49 : decode cX4_put 49 = .ok (.iconst 1, 1) := by decide +kernel
theorem dX4_put_50 : decode cX4_put 50 = .ok (.iaload, 1) := by decide +kernel
theorem dX4_put_51 : decode cX4_put 51 = .ok (.iastore, 1) := by decide +kernel
theorem dX4_put_52 : decode cX4_put 52 = .ok (.dup, 1) := by decide +kernel
theorem dX4_put_53 : decode cX4_put 53 = .ok (.iconst 2, 1) := by decide +kernel
theorem dX4_put_54 : decode cX4_put 54 = .ok (.aload 5, 2) := by decide +kernel
theorem dX4_put_56 : decode cX4_put 56 = .ok (.iconst 0, 1) := by decide +kernel
theorem dX4_put_57 : decode cX4_put 57 = .ok (.iaload, 1) := by decide +kernel
theorem dX4_put_58 : decode cX4_put 58 = .ok (.iastore, 1) := by decide +kernel
theorem dX4_put_59 : decode cX4_put 59 = .ok (.dup, 1) := by decide +kernel
theorem dX4_put_60 : decode cX4_put 60 = .ok (.iconst 3, 1) := by decide +kernel
theorem dX4_put_61 : decode cX4_put 61 = .ok (.aload 5, 2) := by decide +kernel
theorem dX4_put_63 : decode cX4_put 63 = .ok (.iconst 1, 1) := by decide +kernel
theorem dX4_put_64 : decode cX4_put 64 = .ok (.iaload, 1) := by decide +kernel
theorem dX4_put_65 : decode cX4_put 65 = .ok (.iastore, 1) := by decide +kernel
theorem dX4_put_66 : decode cX4_put 66 = .ok (.aastore, 1) := by decide +kernel
theorem dX4_put_67 : decode cX4_put 67 = .ok (.aload_n 0, 1) := by decide +kernel
theorem dX4_put_68 : decode cX4_put 68 = .ok (.getfield 11, 3) := by decide +kernel
theorem dX4_put_71 : decode cX4_put 71 = .ok (.iload_n 1, 1) := by decide +kernel
theorem dX4_put_72 : decode cX4_put 72 = .ok (.aaload, 1) := by decide +kernel
theorem dX4_put_73 : decode cX4_put 73 = .ok (.invokestatic 154, 3) := by decide +kernel
theorem dX4_put_76 : decode cX4_put 76 = .ok (.ireturn, 1) := by decide +kernel
set_option maxRecDepth 20000 in
theorem ggX4_copy_X4_isCell : GoodIn wsX4_copy wsX4_isCell := goodIn_r _ [6, 7, 8, 5, 9] (by decide +kernel) (by decide +kernel)
set_option maxRecDepth 20000 in
theorem gX4_copy_X4_isCell : GoodIn wsX4_copy (va_wsS RX4 143 yX4_isCell wsX4_isCell) := goodIn_app (goodIn_of _ (by decide +kernel)) ggX4_copy_X4_isCell
set_option maxRecDepth 20000 in
theorem ggX4_copy_X4_refuses : GoodIn wsX4_copy wsX4_refuses := goodIn_r _ [13, 1, 30, 31, 32, 33, 34, 35, 36, 37, 38, 39] (by decide +kernel) (by decide +kernel)
set_option maxRecDepth 20000 in
theorem gX4_copy_X4_refuses : GoodIn wsX4_copy (wsV RX4 157 RX4 yX4_refuses wsX4_refuses) := goodIn_app (goodIn_of _ (by decide +kernel)) ggX4_copy_X4_refuses
set_option maxRecDepth 20000 in
theorem ggX4_copy_X4_become : GoodIn wsX4_copy wsX4_become := goodIn_r _ [17, 2, 18, 19, 5, 20, 21, 22, 23, 24, 25, 26, 27, 28, 29, 30, 31, 32, 33, 34, 35, 36, 37, 38, 39] (by decide +kernel) (by decide +kernel)
set_option maxRecDepth 20000 in
theorem gX4_copy_X4_become : GoodIn wsX4_copy (wsV RX4 160 RX4 yX4_become wsX4_become) := goodIn_app (goodIn_of _ (by decide +kernel)) ggX4_copy_X4_become
theorem dX4_copy_0 : decode cX4_copy 0 = .ok (.aload_n 0, 1) := by decide +kernel
theorem dX4_copy_1 : decode cX4_copy 1 = .ok (.iconst 0, 1) := by decide +kernel
theorem dX4_copy_2 : decode cX4_copy 2 = .ok (.putfield 27, 3) := by decide +kernel
theorem dX4_copy_5 : decode cX4_copy 5 = .ok (.iload_n 1, 1) := by decide +kernel
theorem dX4_copy_6 : decode cX4_copy 6 = .ok (.invokestatic 143, 3) := by decide +kernel
theorem dX4_copy_9 : decode cX4_copy 9 = .ok (.ifCond .eq 10, 3) := by decide +kernel
theorem dX4_copy_12 : decode cX4_copy 12 = .ok (.iload_n 2, 1) := by decide +kernel
theorem dX4_copy_13 : decode cX4_copy 13 = .ok (.invokestatic 143, 3) := by decide +kernel
theorem dX4_copy_16 : decode cX4_copy 16 = .ok (.ifCond .ne 9, 3) := by decide +kernel
theorem dX4_copy_19 : decode cX4_copy 19 = .ok (.aload_n 0, 1) := by decide +kernel
theorem dX4_copy_20 : decode cX4_copy 20 = .ok (.iconst 1, 1) := by decide +kernel
theorem dX4_copy_21 : decode cX4_copy 21 = .ok (.invokevirtual 157, 3) := by decide +kernel
theorem dX4_copy_24 : decode cX4_copy 24 = .ok (.ireturn, 1) := by decide +kernel
theorem dX4_copy_25 : decode cX4_copy 25 = .ok (.aload_n 0, 1) := by decide +kernel
theorem dX4_copy_26 : decode cX4_copy 26 = .ok (.iload_n 1, 1) := by decide +kernel
theorem dX4_copy_27 : decode cX4_copy 27 = .ok (.aload_n 0, 1) := by decide +kernel
theorem dX4_copy_28 : decode cX4_copy 28 = .ok (.getfield 11, 3) := by decide +kernel
theorem dX4_copy_31 : decode cX4_copy 31 = .ok (.iload_n 2, 1) := by decide +kernel
theorem dX4_copy_32 : decode cX4_copy 32 = .ok (.aaload, 1) := by decide +kernel
theorem dX4_copy_33 : decode cX4_copy 33 = .ok (.invokevirtual 160, 3) := by decide +kernel
theorem dX4_copy_36 : decode cX4_copy 36 = .ok (.ireturn, 1) := by decide +kernel
set_option maxRecDepth 20000 in
theorem ggX4_type_X4_is : GoodIn wsX4_type wsX4_is := goodIn_r _ [9] (by decide +kernel) (by decide +kernel)
set_option maxRecDepth 20000 in
theorem gX4_type_X4_is : GoodIn wsX4_type (va_wsS RX4 31 yX4_is wsX4_is) := goodIn_app (goodIn_of _ (by decide +kernel)) ggX4_type_X4_is
set_option maxRecDepth 20000 in
theorem ggX4_type_X4_refuse : GoodIn wsX4_type wsX4_refuse := goodIn_r _ [13, 1, 248, 249, 250, 251, 252, 253, 254, 255, 256, 257] (by decide +kernel) (by decide +kernel)
set_option maxRecDepth 20000 in
theorem gX4_type_X4_refuse : GoodIn wsX4_type (wsV RX4 147 RX4 yX4_refuse wsX4_refuse) := goodIn_app (goodIn_of _ (by decide +kernel)) ggX4_type_X4_refuse
set_option maxRecDepth 20000 in
theorem ggX4_type_J0_length_8abf5 : GoodIn wsX4_type wsJ0_length_8abf5 := goodIn_r _ [18, 19, 20, 21, 22, 17, 23, 24, 25, 262, 263, 264, 265] (by decide +kernel) (by decide +kernel)
set_option maxRecDepth 20000 in
theorem gX4_type_J0_length_8abf5 : GoodIn wsX4_type (wsV RX4 128 RJ0 yJ0_length_8abf5 wsJ0_length_8abf5) := goodIn_app (goodIn_of _ (by decide +kernel)) ggX4_type_J0_length_8abf5
set_option maxRecDepth 20000 in
theorem ggX4_type_X4_sign : GoodIn wsX4_type wsX4_sign := goodIn_r _ [28] (by decide +kernel) (by decide +kernel)
set_option maxRecDepth 20000 in
theorem gX4_type_X4_sign : GoodIn wsX4_type (va_wsS RX4 96 yX4_sign wsX4_sign) := goodIn_app (goodIn_of _ (by decide +kernel)) ggX4_type_X4_sign
set_option maxRecDepth 20000 in
theorem ggX4_type_J4_init_da8c8 : GoodIn wsX4_type wsJ4_init_da8c8 := goodIn_r _ [31, 32, 33, 34, 35, 36, 37, 38, 39, 40, 41, 42, 43, 44, 45, 46, 47, 48, 49, 50, 258, 259, 260, 261] (by decide +kernel) (by decide +kernel)
set_option maxRecDepth 20000 in
theorem gX4_type_J4_init_da8c8 : GoodIn wsX4_type (wsJ4_init_da8c8) := ggX4_type_J4_init_da8c8
set_option maxRecDepth 20000 in
theorem ggX4_type_J4_append_15ec4 : GoodIn wsX4_type wsJ4_append_15ec4 := goodIn_r _ [54, 55, 56, 57, 58, 34, 59, 60, 61, 62, 63, 64, 65, 41, 66, 67, 68, 69, 70, 42, 71, 72, 73, 74, 75, 76, 77, 78, 79, 80, 81, 82, 83, 84, 85, 86, 87, 88, 89, 90, 91, 92, 93, 94, 95, 96, 97, 98, 40, 99, 100, 101, 102, 103, 104, 105, 106, 107, 108, 109, 110, 39, 111, 112, 45, 113, 114, 115, 116, 117, 118, 119, 120, 121, 122, 17, 123, 124, 125, 126, 127, 128, 129, 130, 131, 132, 133, 134, 15, 16, 18, 19, 20, 21, 22, 23, 24, 25, 135, 136, 137, 138, 139, 140, 141, 142, 143, 144, 145, 146, 147, 148, 149, 150, 43, 44, 46, 47, 48, 49, 50, 151, 152, 153, 154, 155, 156, 157, 158, 159, 160, 161, 162, 163, 164, 165, 166, 167, 168, 169, 170, 171, 172, 258, 259, 260, 261, 262, 263, 264, 265] (by decide +kernel) (by decide +kernel)
set_option maxRecDepth 20000 in
theorem gX4_type_J4_append_15ec4 : GoodIn wsX4_type (wsV RX4 113 RJ4 yJ4_append_15ec4 wsJ4_append_15ec4) := goodIn_app (goodIn_of _ (by decide +kernel)) ggX4_type_J4_append_15ec4
set_option maxRecDepth 20000 in
theorem ggX4_type_J4_append_cf468 : GoodIn wsX4_type wsJ4_append_cf468 := goodIn_r _ [176, 177, 178, 57, 179, 34, 180, 60, 41, 66, 67, 68, 69, 70, 42, 71, 72, 73, 74, 75, 76, 77, 78, 79, 80, 81, 82, 83, 84, 85, 86, 87, 88, 89, 90, 91, 92, 93, 94, 95, 96, 97, 98, 40, 99, 100, 101, 102, 103, 104, 105, 106, 107, 108, 109, 110, 39, 181, 182, 153, 183, 146, 147, 148, 149, 150, 43, 44, 45, 46, 47, 48, 49, 50, 151, 152, 154, 155, 156, 157, 158, 159, 160, 118, 119, 120, 161, 162, 17, 163, 124, 164, 165, 127, 166, 129, 130, 131, 114, 132, 133, 184, 185, 186, 187, 188, 189, 190, 191, 192, 193, 194, 195, 258, 259, 260, 261] (by decide +kernel) (by decide +kernel)
set_option maxRecDepth 20000 in
theorem gX4_type_J4_append_cf468 : GoodIn wsX4_type (wsV RX4 100 RJ4 yJ4_append_cf468 wsJ4_append_cf468) := goodIn_app (goodIn_of _ (by decide +kernel)) ggX4_type_J4_append_cf468
set_option maxRecDepth 20000 in
theorem ggX4_type_J4_toString_0e30d : GoodIn wsX4_type wsJ4_toString_0e30d := goodIn_r _ [199, 200, 201, 17, 202, 203, 204, 205, 206, 207, 208, 37, 38, 25, 19, 24, 209, 210, 211, 212, 213, 34, 214, 41, 215, 216, 217, 218, 219, 5, 220, 221, 57, 222, 223, 60, 224, 107, 108, 109, 110, 39, 42, 225, 226, 91, 227, 93, 94, 95, 96, 97, 98, 228, 229, 230, 40, 99, 100, 83, 101, 102, 103, 104, 105, 231, 232, 233, 234, 4, 235, 236, 45, 237, 238, 239, 240, 158, 159, 160, 118, 119, 120, 161, 162, 163, 124, 164, 165, 127, 166, 241, 242, 243, 114, 132, 133, 47, 48, 49, 50, 244, 245, 246, 247, 262, 263, 264, 265, 258, 259, 260, 261] (by decide +kernel) (by decide +kernel)
set_option maxRecDepth 20000 in
theorem gX4_type_J4_toString_0e30d : GoodIn wsX4_type (wsV RX4 107 RJ4 yJ4_toString_0e30d wsJ4_toString_0e30d) := goodIn_app (goodIn_of _ (by decide +kernel)) ggX4_type_J4_toString_0e30d
theorem dX4_type_0 : decode cX4_type 0 = .ok (.aload_n 0, 1) := by decide +kernel
theorem dX4_type_1 : decode cX4_type 1 = .ok (.iconst 0, 1) := by decide +kernel
theorem dX4_type_2 : decode cX4_type 2 = .ok (.putfield 27, 3) := by decide +kernel
theorem dX4_type_5 : decode cX4_type 5 = .ok (.iload_n 1, 1) := by decide +kernel
theorem dX4_type_6 : decode cX4_type 6 = .ok (.iconst 0, 1) := by decide +kernel
theorem dX4_type_7 : decode cX4_type 7 = .ok (.bipush 37, 2) := by decide +kernel
theorem dX4_type_9 : decode cX4_type 9 = .ok (.invokestatic 31, 3) := by decide +kernel
theorem dX4_type_12 : decode cX4_type 12 = .ok (.ifCond .ne 9, 3) := by decide +kernel
theorem dX4_type_15 : decode cX4_type 15 = .ok (.aload_n 0, 1) := by decide +kernel
theorem dX4_type_16 : decode cX4_type 16 = .ok (.iconst 1, 1) := by decide +kernel
theorem dX4_type_17 : decode cX4_type 17 = .ok (.invokevirtual 147, 3) := by decide +kernel
theorem dX4_type_20 : decode cX4_type 20 = .ok (.ireturn, 1) := by decide +kernel
theorem dX4_type_21 : decode cX4_type 21 = .ok (.aload_n 0, 1) := by decide +kernel
theorem dX4_type_22 : decode cX4_type 22 = .ok (.getfield 16, 3) := by decide +kernel
theorem dX4_type_25 : decode cX4_type 25 = .ok (.invokevirtual 128, 3) := by decide +kernel
theorem dX4_type_28 : decode cX4_type 28 = .ok (.bipush 70, 2) := by decide +kernel
theorem dX4_type_30 : decode cX4_type 30 = .ok (.if_icmp .ne 9, 3) := by decide +kernel
theorem dX4_type_33 : decode cX4_type 33 = .ok (.aload_n 0, 1) := by decide +kernel
theorem dX4_type_34 : decode cX4_type 34 = .ok (.iconst 2, 1) := by decide +kernel
theorem dX4_type_35 : decode cX4_type 35 = .ok (.invokevirtual 147, 3) := by decide +kernel
theorem dX4_type_38 : decode cX4_type 38 = .ok (.ireturn, 1) := by decide +kernel
theorem dX4_type_39 : decode cX4_type 39 = .ok (.iload_n 1, 1) := by decide +kernel
theorem dX4_type_40 : decode cX4_type 40 = .ok (.bipush 36, 2) := by decide +kernel
theorem dX4_type_42 : decode cX4_type 42 = .ok (.if_icmp .ne 8, 3) := by decide +kernel
theorem dX4_type_45 : decode cX4_type 45 = .ok (.bipush 45, 2) := by decide +kernel
theorem dX4_type_47 : decode cX4_type 47 = .ok (.goto 39, 3) := by decide +kernel
theorem dX4_type_50 : decode cX4_type 50 = .ok (.iload_n 1, 1) := by decide +kernel
theorem dX4_type_51 : decode cX4_type 51 = .ok (.bipush 37, 2) := by decide +kernel
theorem dX4_type_53 : decode cX4_type 53 = .ok (.if_icmp .ne 8, 3) := by decide +kernel
theorem dX4_type_56 : decode cX4_type 56 = .ok (.bipush 43, 2) := by decide +kernel
theorem dX4_type_58 : decode cX4_type 58 = .ok (.goto 28, 3) := by decide +kernel
theorem dX4_type_61 : decode cX4_type 61 = .ok (.iload_n 2, 1) := by decide +kernel
theorem dX4_type_62 : decode cX4_type 62 = .ok (.ifCond .eq 20, 3) := by decide +kernel
theorem dX4_type_65 : decode cX4_type 65 = .ok (.iload_n 1, 1) := by decide +kernel
theorem dX4_type_66 : decode cX4_type 66 = .ok (.bipush 9, 2) := by decide +kernel
theorem dX4_type_68 : decode cX4_type 68 = .ok (.if_icmp .le 14, 3) := by decide +kernel
theorem dX4_type_71 : decode cX4_type 71 = .ok (.bipush 65, 2) := by decide +kernel
theorem dX4_type_73 : decode cX4_type 73 = .ok (.iload_n 1, 1) := by decide +kernel
theorem dX4_type_74 : decode cX4_type 74 = .ok (.iadd, 1) := by decide +kernel
theorem dX4_type_75 : decode cX4_type 75 = .ok (.bipush 10, 2) := by decide +kernel
theorem dX4_type_77 : decode cX4_type 77 = .ok (.isub, 1) := by decide +kernel
theorem dX4_type_78 : decode cX4_type 78 = .ok (.i2c, 1) := by decide +kernel
theorem dX4_type_79 : decode cX4_type 79 = .ok (.goto 7, 3) := by decide +kernel
theorem dX4_type_82 : decode cX4_type 82 = .ok (.iload_n 1, 1) := by decide +kernel
theorem dX4_type_83 : decode cX4_type 83 = .ok (.invokestatic 96, 3) := by decide +kernel
theorem dX4_type_86 : decode cX4_type 86 = .ok (.istore_n 3, 1) := by decide +kernel
theorem dX4_type_87 : decode cX4_type 87 = .ok (.aload_n 0, 1) := by decide +kernel
theorem dX4_type_88 : decode cX4_type 88 = .ok (.new 86, 3) := by decide +kernel
theorem dX4_type_91 : decode cX4_type 91 = .ok (.dup, 1) := by decide +kernel
theorem dX4_type_92 : decode cX4_type 92 = .ok (.invokespecial 88, 3) := by decide +kernel
theorem dX4_type_95 : decode cX4_type 95 = .ok (.aload_n 0, 1) := by decide +kernel
theorem dX4_type_96 : decode cX4_type 96 = .ok (.getfield 16, 3) := by decide +kernel
theorem dX4_type_99 : decode cX4_type 99 = .ok (.invokevirtual 113, 3) := by decide +kernel
theorem dX4_type_102 : decode cX4_type 102 = .ok (.iload_n 3, 1) := by decide +kernel
theorem dX4_type_103 : decode cX4_type 103 = .ok (.invokevirtual 100, 3) := by decide +kernel
theorem dX4_type_106 : decode cX4_type 106 = .ok (.invokevirtual 107, 3) := by decide +kernel
theorem dX4_type_109 : decode cX4_type 109 = .ok (.putfield 16, 3) := by decide +kernel
theorem dX4_type_112 : decode cX4_type 112 = .ok (.aload_n 0, 1) := by decide +kernel
theorem dX4_type_113 : decode cX4_type 113 = .ok (.getfield 16, 3) := by decide +kernel
theorem dX4_type_116 : decode cX4_type 116 = .ok (.invokevirtual 128, 3) := by decide +kernel
theorem dX4_type_119 : decode cX4_type 119 = .ok (.ireturn, 1) := by decide +kernel
set_option maxRecDepth 20000 in
theorem ggX4_erase_J0_isEmpty_aae02 : GoodIn wsX4_erase wsJ0_isEmpty_aae02 := goodIn_r _ [7, 8, 130, 131, 132, 133] (by decide +kernel) (by decide +kernel)
set_option maxRecDepth 20000 in
theorem gX4_erase_J0_isEmpty_aae02 : GoodIn wsX4_erase (wsV RX4 164 RJ0 yJ0_isEmpty_aae02 wsJ0_isEmpty_aae02) := goodIn_app (goodIn_of _ (by decide +kernel)) ggX4_erase_J0_isEmpty_aae02
set_option maxRecDepth 20000 in
theorem ggX4_erase_X4_refuse : GoodIn wsX4_erase wsX4_refuse := goodIn_r _ [13, 1, 120, 121, 122, 123, 124, 125, 126, 127, 128, 129] (by decide +kernel) (by decide +kernel)
set_option maxRecDepth 20000 in
theorem gX4_erase_X4_refuse : GoodIn wsX4_erase (wsV RX4 147 RX4 yX4_refuse wsX4_refuse) := goodIn_app (goodIn_of _ (by decide +kernel)) ggX4_erase_X4_refuse
set_option maxRecDepth 20000 in
theorem ggX4_erase_J0_length_8abf5 : GoodIn wsX4_erase wsJ0_length_8abf5 := goodIn_r _ [17, 8, 18, 19, 20, 6, 21, 22, 23, 130, 131, 132, 133] (by decide +kernel) (by decide +kernel)
set_option maxRecDepth 20000 in
theorem gX4_erase_J0_length_8abf5 : GoodIn wsX4_erase (wsV RX4 128 RJ0 yJ0_length_8abf5 wsJ0_length_8abf5) := goodIn_app (goodIn_of _ (by decide +kernel)) ggX4_erase_J0_length_8abf5
set_option maxRecDepth 20000 in
theorem ggX4_erase_J0_substring_37a41 : GoodIn wsX4_erase wsJ0_substring_37a41 := goodIn_r _ [27, 8, 28, 15, 16, 6, 17, 18, 19, 20, 21, 22, 23, 29, 30, 31, 32, 33, 34, 35, 36, 37, 38, 39, 40, 41, 42, 43, 44, 45, 46, 47, 48, 49, 50, 51, 52, 53, 54, 55, 56, 57, 58, 59, 60, 61, 62, 63, 64, 65, 66, 67, 68, 69, 70, 71, 72, 73, 74, 75, 76, 77, 78, 79, 80, 81, 82, 83, 84, 85, 86, 87, 88, 89, 90, 91, 92, 93, 94, 95, 96, 97, 98, 99, 100, 101, 102, 103, 104, 105, 106, 107, 108, 109, 110, 111, 112, 113, 114, 115, 116, 117, 118, 119, 130, 131, 132, 133, 134, 135, 136, 137] (by decide +kernel) (by decide +kernel)
set_option maxRecDepth 20000 in
theorem gX4_erase_J0_substring_37a41 : GoodIn wsX4_erase (wsV RX4 168 RJ0 yJ0_substring_37a41 wsJ0_substring_37a41) := goodIn_app (goodIn_of _ (by decide +kernel)) ggX4_erase_J0_substring_37a41
theorem dX4_erase_0 : decode cX4_erase 0 = .ok (.aload_n 0, 1) := by decide +kernel
theorem dX4_erase_1 : decode cX4_erase 1 = .ok (.iconst 0, 1) := by decide +kernel
theorem dX4_erase_2 : decode cX4_erase 2 = .ok (.putfield 27, 3) := by decide +kernel
theorem dX4_erase_5 : decode cX4_erase 5 = .ok (.aload_n 0, 1) := by decide +kernel
theorem dX4_erase_6 : decode cX4_erase 6 = .ok (.getfield 16, 3) := by decide +kernel
theorem dX4_erase_9 : decode cX4_erase 9 = .ok (.invokevirtual 164, 3) := by decide +kernel
theorem dX4_erase_12 : decode cX4_erase 12 = .ok (.ifCond .eq 9, 3) := by decide +kernel
theorem dX4_erase_15 : decode cX4_erase 15 = .ok (.aload_n 0, 1) := by decide +kernel
theorem dX4_erase_16 : decode cX4_erase 16 = .ok (.iconst 1, 1) := by decide +kernel
theorem dX4_erase_17 : decode cX4_erase 17 = .ok (.invokevirtual 147, 3) := by decide +kernel
theorem dX4_erase_20 : decode cX4_erase 20 = .ok (.ireturn, 1) := by decide +kernel
theorem dX4_erase_21 : decode cX4_erase 21 = .ok (.aload_n 0, 1) := by decide +kernel
theorem dX4_erase_22 : decode cX4_erase 22 = .ok (.aload_n 0, 1) := by decide +kernel
theorem dX4_erase_23 : decode cX4_erase 23 = .ok (.getfield 16, 3) := by decide +kernel
theorem dX4_erase_26 : decode cX4_erase 26 = .ok (.iconst 0, 1) := by decide +kernel
theorem dX4_erase_27 : decode cX4_erase 27 = .ok (.aload_n 0, 1) := by decide +kernel
theorem dX4_erase_28 : decode cX4_erase 28 = .ok (.getfield 16, 3) := by decide +kernel
theorem dX4_erase_31 : decode cX4_erase 31 = .ok (.invokevirtual 128, 3) := by decide +kernel
theorem dX4_erase_34 : decode cX4_erase 34 = .ok (.iconst 1, 1) := by decide +kernel
theorem dX4_erase_35 : decode cX4_erase 35 = .ok (.isub, 1) := by decide +kernel
theorem dX4_erase_36 : decode cX4_erase 36 = .ok (.invokevirtual 168, 3) := by decide +kernel
theorem dX4_erase_39 : decode cX4_erase 39 = .ok (.putfield 16, 3) := by decide +kernel
theorem dX4_erase_42 : decode cX4_erase 42 = .ok (.aload_n 0, 1) := by decide +kernel
theorem dX4_erase_43 : decode cX4_erase 43 = .ok (.getfield 16, 3) := by decide +kernel
theorem dX4_erase_46 : decode cX4_erase 46 = .ok (.invokevirtual 128, 3) := by decide +kernel
theorem dX4_erase_49 : decode cX4_erase 49 = .ok (.ireturn, 1) := by decide +kernel
set_option maxRecDepth 20000 in
theorem ggX4_clear_J0_length_8abf5 : GoodIn wsX4_clear wsJ0_length_8abf5 := goodIn_r _ [7, 8, 9, 10, 11, 6, 12, 13, 14, 25, 26, 27, 28] (by decide +kernel) (by decide +kernel)
set_option maxRecDepth 20000 in
theorem gX4_clear_J0_length_8abf5 : GoodIn wsX4_clear (wsV RX4 128 RJ0 yJ0_length_8abf5 wsJ0_length_8abf5) := goodIn_app (goodIn_of _ (by decide +kernel)) ggX4_clear_J0_length_8abf5
theorem dX4_clear_0 : decode cX4_clear 0 = .ok (.aload_n 0, 1) := by decide +kernel
theorem dX4_clear_1 : decode cX4_clear 1 = .ok (.iconst 0, 1) := by decide +kernel
theorem dX4_clear_2 : decode cX4_clear 2 = .ok (.putfield 27, 3) := by decide +kernel
theorem dX4_clear_5 : decode cX4_clear 5 = .ok (.aload_n 0, 1) := by decide +kernel
theorem dX4_clear_6 : decode cX4_clear 6 = .ok (.getfield 16, 3) := by decide +kernel
theorem dX4_clear_9 : decode cX4_clear 9 = .ok (.invokevirtual 128, 3) := by decide +kernel
theorem dX4_clear_12 : decode cX4_clear 12 = .ok (.istore_n 1, 1) := by decide +kernel
theorem dX4_clear_13 : decode cX4_clear 13 = .ok (.aload_n 0, 1) := by decide +kernel
theorem dX4_clear_14 : decode cX4_clear 14 = .ok (.ldc 14, 2) := by decide +kernel
theorem dX4_clear_16 : decode cX4_clear 16 = .ok (.putfield 16, 3) := by decide +kernel
theorem dX4_clear_19 : decode cX4_clear 19 = .ok (.iload_n 1, 1) := by decide +kernel
theorem dX4_clear_20 : decode cX4_clear 20 = .ok (.ireturn, 1) := by decide +kernel
set_option maxRecDepth 20000 in
theorem ggX4_read_X4_isCell : GoodIn wsX4_read wsX4_isCell := goodIn_r _ [8, 9, 10, 7, 11] (by decide +kernel) (by decide +kernel)
set_option maxRecDepth 20000 in
theorem gX4_read_X4_isCell : GoodIn wsX4_read (va_wsS RX4 143 yX4_isCell wsX4_isCell) := goodIn_app (goodIn_of _ (by decide +kernel)) ggX4_read_X4_isCell
set_option maxRecDepth 20000 in
theorem ggX4_read_X4_refuse : GoodIn wsX4_read wsX4_refuse := goodIn_r _ [15, 1, 101, 102, 103, 104, 105, 106, 107, 108, 109, 110] (by decide +kernel) (by decide +kernel)
set_option maxRecDepth 20000 in
theorem gX4_read_X4_refuse : GoodIn wsX4_read (wsV RX4 147 RX4 yX4_refuse wsX4_refuse) := goodIn_app (goodIn_of _ (by decide +kernel)) ggX4_read_X4_refuse
set_option maxRecDepth 20000 in
theorem ggX4_read_X4_isRight : GoodIn wsX4_read wsX4_isRight := goodIn_r _ [18, 9, 10, 7, 11] (by decide +kernel) (by decide +kernel)
set_option maxRecDepth 20000 in
theorem gX4_read_X4_isRight : GoodIn wsX4_read (va_wsS RX4 172 yX4_isRight wsX4_isRight) := goodIn_app (goodIn_of _ (by decide +kernel)) ggX4_read_X4_isRight
set_option maxRecDepth 20000 in
theorem ggX4_read_X4_said : GoodIn wsX4_read wsX4_said := goodIn_r _ [21, 22, 23, 24, 25, 26, 27, 28, 29, 30, 31, 32, 33, 34, 35, 36, 37, 38, 39, 40, 41, 42, 43, 44, 45, 46, 47, 48, 49, 50, 51, 52, 53, 54, 55, 56, 57, 58, 59, 60, 61, 62, 63, 64, 65, 66, 67, 68, 69, 70, 71, 72, 73, 74, 7, 75, 76, 77, 78, 79, 80, 81, 82, 83, 84, 85, 86, 87, 88, 89, 90, 91, 92, 111, 112, 113, 114] (by decide +kernel) (by decide +kernel)
set_option maxRecDepth 20000 in
theorem gX4_read_X4_said : GoodIn wsX4_read (va_wsS RX4 179 yX4_said wsX4_said) := goodIn_app (goodIn_of _ (by decide +kernel)) ggX4_read_X4_said
set_option maxRecDepth 20000 in
theorem ggX4_read_X4_become : GoodIn wsX4_read wsX4_become := goodIn_r _ [96, 97, 98, 99, 7, 100, 22, 85, 89, 90, 91, 92, 86, 87, 88, 101, 102, 103, 104, 105, 106, 107, 108, 109, 110] (by decide +kernel) (by decide +kernel)
set_option maxRecDepth 20000 in
theorem gX4_read_X4_become : GoodIn wsX4_read (wsV RX4 160 RX4 yX4_become wsX4_become) := goodIn_app (goodIn_of _ (by decide +kernel)) ggX4_read_X4_become
theorem dX4_read_0 : decode cX4_read 0 = .ok (.aload_n 0, 1) := by decide +kernel
theorem dX4_read_1 : decode cX4_read 1 = .ok (.iconst 0, 1) := by decide +kernel
theorem dX4_read_2 : decode cX4_read 2 = .ok (.putfield 27, 3) := by decide +kernel
theorem dX4_read_5 : decode cX4_read 5 = .ok (.iload_n 1, 1) := by decide +kernel
theorem dX4_read_6 : decode cX4_read 6 = .ok (.invokestatic 143, 3) := by decide +kernel
theorem dX4_read_9 : decode cX4_read 9 = .ok (.ifCond .ne 9, 3) := by decide +kernel
theorem dX4_read_12 : decode cX4_read 12 = .ok (.aload_n 0, 1) := by decide +kernel
theorem dX4_read_13 : decode cX4_read 13 = .ok (.iconst 1, 1) := by decide +kernel
theorem dX4_read_14 : decode cX4_read 14 = .ok (.invokevirtual 147, 3) := by decide +kernel
theorem dX4_read_17 : decode cX4_read 17 = .ok (.ireturn, 1) := by decide +kernel
theorem dX4_read_18 : decode cX4_read 18 = .ok (.iload_n 2, 1) := by decide +kernel
theorem dX4_read_19 : decode cX4_read 19 = .ok (.iload_n 3, 1) := by decide +kernel
theorem dX4_read_20 : decode cX4_read 20 = .ok (.invokestatic 172, 3) := by decide +kernel
theorem dX4_read_23 : decode cX4_read 23 = .ok (.ifCond .ne 9, 3) := by decide +kernel
theorem dX4_read_26 : decode cX4_read 26 = .ok (.aload_n 0, 1) := by decide +kernel
theorem dX4_read_27 : decode cX4_read 27 = .ok (.iconst 2, 1) := by decide +kernel
theorem dX4_read_28 : decode cX4_read 28 = .ok (.invokevirtual 147, 3) := by decide +kernel
theorem dX4_read_31 : decode cX4_read 31 = .ok (.ireturn, 1) := by decide +kernel
theorem dX4_read_32 : decode cX4_read 32 = .ok (.aload_n 0, 1) := by decide +kernel
theorem dX4_read_33 : decode cX4_read 33 = .ok (.dup, 1) := by decide +kernel
theorem dX4_read_34 : decode cX4_read 34 = .ok (.getfield 176, 3) := by decide +kernel
theorem dX4_read_37 : decode cX4_read 37 = .ok (.iconst 1, 1) := by decide +kernel
theorem dX4_read_38 : decode cX4_read 38 = .ok (.iadd, 1) := by decide +kernel
theorem dX4_read_39 : decode cX4_read 39 = .ok (.putfield 176, 3) := by decide +kernel
theorem dX4_read_42 : decode cX4_read 42 = .ok (.aload_n 0, 1) := by decide +kernel
theorem dX4_read_43 : decode cX4_read 43 = .ok (.getfield 16, 3) := by decide +kernel
theorem dX4_read_46 : decode cX4_read 46 = .ok (.iload_n 2, 1) := by decide +kernel
theorem dX4_read_47 : decode cX4_read 47 = .ok (.iload_n 3, 1) := by decide +kernel
theorem dX4_read_48 : decode cX4_read 48 = .ok (.invokestatic 179, 3) := by decide +kernel
theorem dX4_read_51 : decode cX4_read 51 = .ok (.astore 4, 2) := by decide +kernel
theorem dX4_read_53 : decode cX4_read 53 = .ok (.aload 4, 2) := by decide +kernel
theorem dX4_read_55 : decode cX4_read 55 = .ok (.ifnonnull 15, 3) := by decide +kernel
theorem dX4_read_58 : decode cX4_read 58 = .ok (.aload_n 0, 1) := by decide +kernel
theorem dX4_read_59 : decode cX4_read 59 = .ok (.dup, 1) := by decide +kernel
theorem dX4_read_60 : decode cX4_read 60 = .ok (.getfield 183, 3) := by decide +kernel
theorem dX4_read_63 : decode cX4_read 63 = .ok (.iconst 1, 1) := by decide +kernel
theorem dX4_read_64 : decode cX4_read 64 = .ok (.iadd, 1) := by decide +kernel
theorem dX4_read_65 : decode cX4_read 65 = .ok (.putfield 183, 3) := by decide +kernel
theorem dX4_read_68 : decode cX4_read 68 = .ok (.iconst 0, 1) := by decide +kernel
theorem dX4_read_69 : decode cX4_read 69 = .ok (.ireturn, 1) := by decide +kernel
theorem dX4_read_70 : decode cX4_read 70 = .ok (.aload_n 0, 1) := by decide +kernel
theorem dX4_read_71 : decode cX4_read 71 = .ok (.iload_n 1, 1) := by decide +kernel
theorem dX4_read_72 : decode cX4_read 72 = .ok (.aload 4, 2) := by decide +kernel
theorem dX4_read_74 : decode cX4_read 74 = .ok (.invokevirtual 160, 3) := by decide +kernel
theorem dX4_read_77 : decode cX4_read 77 = .ok (.pop, 1) := by decide +kernel
theorem dX4_read_78 : decode cX4_read 78 = .ok (.iconst 1, 1) := by decide +kernel
theorem dX4_read_79 : decode cX4_read 79 = .ok (.ireturn, 1) := by decide +kernel
set_option maxRecDepth 20000 in
theorem ggX4_writes_J0_length_8abf5 : GoodIn wsX4_writes wsJ0_length_8abf5 := goodIn_r _ [7, 8, 9, 10, 11, 6, 12, 13, 14, 25, 26, 27, 28] (by decide +kernel) (by decide +kernel)
set_option maxRecDepth 20000 in
theorem gX4_writes_J0_length_8abf5 : GoodIn wsX4_writes (wsV RX4 128 RJ0 yJ0_length_8abf5 wsJ0_length_8abf5) := goodIn_app (goodIn_of _ (by decide +kernel)) ggX4_writes_J0_length_8abf5
theorem dX4_writes_0 : decode cX4_writes 0 = .ok (.aload_n 0, 1) := by decide +kernel
theorem dX4_writes_1 : decode cX4_writes 1 = .ok (.dup, 1) := by decide +kernel
theorem dX4_writes_2 : decode cX4_writes 2 = .ok (.getfield 186, 3) := by decide +kernel
theorem dX4_writes_5 : decode cX4_writes 5 = .ok (.iconst 1, 1) := by decide +kernel
theorem dX4_writes_6 : decode cX4_writes 6 = .ok (.iadd, 1) := by decide +kernel
theorem dX4_writes_7 : decode cX4_writes 7 = .ok (.putfield 186, 3) := by decide +kernel
theorem dX4_writes_10 : decode cX4_writes 10 = .ok (.aload_n 0, 1) := by decide +kernel
theorem dX4_writes_11 : decode cX4_writes 11 = .ok (.aload_n 1, 1) := by decide +kernel
theorem dX4_writes_12 : decode cX4_writes 12 = .ok (.putfield 16, 3) := by decide +kernel
theorem dX4_writes_15 : decode cX4_writes 15 = .ok (.aload_n 0, 1) := by decide +kernel
theorem dX4_writes_16 : decode cX4_writes 16 = .ok (.getfield 16, 3) := by decide +kernel
theorem dX4_writes_19 : decode cX4_writes 19 = .ok (.invokevirtual 128, 3) := by decide +kernel
theorem dX4_writes_22 : decode cX4_writes 22 = .ok (.ireturn, 1) := by decide +kernel
set_option maxRecDepth 20000 in
theorem ggX4_write_X4_isCell : GoodIn wsX4_write wsX4_isCell := goodIn_r _ [5, 6, 7, 4, 8] (by decide +kernel) (by decide +kernel)
set_option maxRecDepth 20000 in
theorem gX4_write_X4_isCell : GoodIn wsX4_write (va_wsS RX4 143 yX4_isCell wsX4_isCell) := goodIn_app (goodIn_of _ (by decide +kernel)) ggX4_write_X4_isCell
set_option maxRecDepth 20000 in
theorem ggX4_write_X4_refuse : GoodIn wsX4_write wsX4_refuse := goodIn_r _ [12, 1, 307, 308, 309, 310, 311, 312, 313, 314, 315, 316] (by decide +kernel) (by decide +kernel)
set_option maxRecDepth 20000 in
theorem gX4_write_X4_refuse : GoodIn wsX4_write (wsV RX4 147 RX4 yX4_refuse wsX4_refuse) := goodIn_app (goodIn_of _ (by decide +kernel)) ggX4_write_X4_refuse
set_option maxRecDepth 20000 in
theorem ggX4_write_X4_isRight : GoodIn wsX4_write wsX4_isRight := goodIn_r _ [15, 6, 7, 4, 8] (by decide +kernel) (by decide +kernel)
set_option maxRecDepth 20000 in
theorem gX4_write_X4_isRight : GoodIn wsX4_write (va_wsS RX4 172 yX4_isRight wsX4_isRight) := goodIn_app (goodIn_of _ (by decide +kernel)) ggX4_write_X4_isRight
set_option maxRecDepth 20000 in
theorem ggX4_write_X4_writtenNow : GoodIn wsX4_write wsX4_writtenNow := goodIn_r _ [19, 20, 21, 22, 4, 23, 24, 25, 26, 27, 28, 29, 30, 31, 32, 33, 34, 35, 36, 37, 38, 39, 40, 41, 42, 43, 44, 45, 46, 47, 48, 49, 50, 51, 52, 53, 54, 55, 56, 57, 58, 59, 60, 61, 62, 63, 64, 65, 66, 67, 68, 69, 70, 71, 72, 73, 74, 75, 76, 77, 78, 79, 80, 81, 82, 83, 84, 85, 86, 87, 88, 89, 90, 91, 92, 93, 94, 95, 96, 97, 98, 99, 100, 101, 102, 103, 104, 105, 106, 107, 108, 109, 110, 111, 112, 113, 114, 115, 116, 117, 118, 119, 120, 121, 122, 123, 124, 125, 126, 127, 128, 129, 130, 131, 132, 133, 134, 135, 136, 137, 138, 139, 140, 141, 142, 143, 144, 145, 146, 147, 148, 149, 150, 151, 152, 153, 154, 155, 156, 157, 158, 159, 160, 161, 162, 163, 164, 165, 166, 167, 168, 169, 170, 171, 172, 173, 174, 175, 176, 177, 178, 179, 180, 181, 182, 183, 184, 185, 186, 187, 188, 189, 190, 191, 192, 193, 194, 195, 196, 197, 198, 199, 200, 201, 202, 203, 204, 205, 206, 207, 208, 209, 210, 211, 212, 213, 214, 215, 216, 217, 218, 219, 220, 221, 222, 223, 224, 225, 226, 227, 228, 229, 230, 231, 232, 233, 234, 235, 236, 237, 238, 239, 240, 241, 242, 243, 244, 245, 246, 247, 248, 249, 250, 251, 252, 253, 254, 255, 256, 257, 258, 259, 260, 261, 262, 263, 264, 265, 266, 267, 268, 269, 270, 271, 272, 273, 274, 275, 276, 277, 278, 279, 280, 281, 282, 283, 284, 285, 286, 287, 288, 289, 290, 291, 292, 293, 294, 295, 296, 297, 298, 299, 307, 308, 309, 310, 311, 312, 313, 314, 315, 316, 317, 318, 319, 320, 321, 322, 323, 324] (by decide +kernel) (by decide +kernel)
set_option maxRecDepth 20000 in
theorem gX4_write_X4_writtenNow : GoodIn wsX4_write (wsV RX4 189 RX4 yX4_writtenNow wsX4_writtenNow) := goodIn_app (goodIn_of _ (by decide +kernel)) ggX4_write_X4_writtenNow
set_option maxRecDepth 20000 in
theorem ggX4_write_X4_writes : GoodIn wsX4_write wsX4_writes := goodIn_r _ [303, 304, 305, 306, 146, 147, 133, 148, 149, 150, 151, 152, 153, 154, 155, 307, 308, 309, 310, 311, 312, 313, 314, 315, 316, 321, 322, 323, 324] (by decide +kernel) (by decide +kernel)
set_option maxRecDepth 20000 in
theorem gX4_write_X4_writes : GoodIn wsX4_write (wsV RX4 193 RX4 yX4_writes wsX4_writes) := goodIn_app (goodIn_of _ (by decide +kernel)) ggX4_write_X4_writes
theorem dX4_write_0 : decode cX4_write 0 = .ok (.aload_n 0, 1) := by decide +kernel
theorem dX4_write_1 : decode cX4_write 1 = .ok (.iconst 0, 1) := by decide +kernel
theorem dX4_write_2 : decode cX4_write 2 = .ok (.putfield 27, 3) := by decide +kernel
theorem dX4_write_5 : decode cX4_write 5 = .ok (.iload_n 1, 1) := by decide +kernel
theorem dX4_write_6 : decode cX4_write 6 = .ok (.invokestatic 143, 3) := by decide +kernel
theorem dX4_write_9 : decode cX4_write 9 = .ok (.ifCond .ne 9, 3) := by decide +kernel
theorem dX4_write_12 : decode cX4_write 12 = .ok (.aload_n 0, 1) := by decide +kernel
theorem dX4_write_13 : decode cX4_write 13 = .ok (.iconst 1, 1) := by decide +kernel
theorem dX4_write_14 : decode cX4_write 14 = .ok (.invokevirtual 147, 3) := by decide +kernel
theorem dX4_write_17 : decode cX4_write 17 = .ok (.ireturn, 1) := by decide +kernel
theorem dX4_write_18 : decode cX4_write 18 = .ok (.iload_n 2, 1) := by decide +kernel
theorem dX4_write_19 : decode cX4_write 19 = .ok (.iload_n 3, 1) := by decide +kernel
theorem dX4_write_20 : decode cX4_write 20 = .ok (.invokestatic 172, 3) := by decide +kernel
theorem dX4_write_23 : decode cX4_write 23 = .ok (.ifCond .eq 17, 3) := by decide +kernel
theorem dX4_write_26 : decode cX4_write 26 = .ok (.aload_n 0, 1) := by decide +kernel
theorem dX4_write_27 : decode cX4_write 27 = .ok (.aload_n 0, 1) := by decide +kernel
theorem dX4_write_28 : decode cX4_write 28 = .ok (.iload_n 1, 1) := by decide +kernel
theorem dX4_write_29 : decode cX4_write 29 = .ok (.iload_n 2, 1) := by decide +kernel
theorem dX4_write_30 : decode cX4_write 30 = .ok (.iload_n 3, 1) := by decide +kernel
theorem dX4_write_31 : decode cX4_write 31 = .ok (.invokevirtual 189, 3) := by decide +kernel
theorem dX4_write_34 : decode cX4_write 34 = .ok (.invokevirtual 193, 3) := by decide +kernel
theorem dX4_write_37 : decode cX4_write 37 = .ok (.goto 8, 3) := by decide +kernel
theorem dX4_write_40 : decode cX4_write 40 = .ok (.aload_n 0, 1) := by decide +kernel
theorem dX4_write_41 : decode cX4_write 41 = .ok (.iconst 2, 1) := by decide +kernel
theorem dX4_write_42 : decode cX4_write 42 = .ok (.invokevirtual 147, 3) := by decide +kernel
theorem dX4_write_45 : decode cX4_write 45 = .ok (.ireturn, 1) := by decide +kernel
set_option maxRecDepth 20000 in
theorem ggX4_bits__X4_isCell : GoodIn wsX4_bits_ wsX4_isCell := goodIn_r _ [5, 6, 7, 4, 8] (by decide +kernel) (by decide +kernel)
set_option maxRecDepth 20000 in
theorem gX4_bits__X4_isCell : GoodIn wsX4_bits_ (va_wsS RX4 143 yX4_isCell wsX4_isCell) := goodIn_app (goodIn_of _ (by decide +kernel)) ggX4_bits__X4_isCell
set_option maxRecDepth 20000 in
theorem ggX4_bits__X4_refuse : GoodIn wsX4_bits_ wsX4_refuse := goodIn_r _ [12, 1, 246, 247, 248, 249, 250, 251, 252, 253, 254, 255] (by decide +kernel) (by decide +kernel)
set_option maxRecDepth 20000 in
theorem gX4_bits__X4_refuse : GoodIn wsX4_bits_ (wsV RX4 147 RX4 yX4_refuse wsX4_refuse) := goodIn_app (goodIn_of _ (by decide +kernel)) ggX4_bits__X4_refuse
set_option maxRecDepth 20000 in
theorem ggX4_bits__X4_is : GoodIn wsX4_bits_ wsX4_is := goodIn_r _ [8] (by decide +kernel) (by decide +kernel)
set_option maxRecDepth 20000 in
theorem gX4_bits__X4_is : GoodIn wsX4_bits_ (va_wsS RX4 31 yX4_is wsX4_is) := goodIn_app (goodIn_of _ (by decide +kernel)) ggX4_bits__X4_is
set_option maxRecDepth 20000 in
theorem ggX4_bits__X4_of : GoodIn wsX4_bits_ wsX4_of := goodIn_r _ [16, 17, 18, 19, 4, 20, 21, 246, 247, 248, 249, 250, 251, 252, 253, 254, 255] (by decide +kernel) (by decide +kernel)
set_option maxRecDepth 20000 in
theorem gX4_bits__X4_of : GoodIn wsX4_bits_ (wsV RX4 120 RX4 yX4_of wsX4_of) := goodIn_app (goodIn_of _ (by decide +kernel)) ggX4_bits__X4_of
set_option maxRecDepth 20000 in
theorem ggX4_bits__X4_unsigned : GoodIn wsX4_bits_ wsX4_unsigned := goodIn_r _ [24, 25, 26, 27, 28, 29, 30, 31, 32, 33, 34, 35, 36, 37, 38, 39, 40, 41, 42, 43, 44, 45, 46, 47, 48, 49, 50, 51, 52, 53, 54, 55, 56, 57, 58, 59, 60, 61, 62, 63, 64, 65, 66, 67, 68, 4, 69, 70, 71, 72, 73, 74, 75, 76, 77, 78, 79, 80, 81, 82, 83, 84, 85, 86, 87, 88, 89, 90, 91, 92, 93, 94, 95, 96, 97, 98, 99, 100, 101, 102, 103, 104, 105, 106, 107, 108, 109, 110, 111, 112, 113, 114, 115, 116, 117, 118, 119, 120, 121, 122, 123, 124, 125, 126, 127, 128, 129, 130, 131, 132, 133, 134, 135, 136, 137, 138, 139, 140, 141, 142, 143, 144, 145, 146, 147, 148, 149, 150, 151, 152, 153, 154, 155, 156, 157, 158, 159, 160, 161, 162, 163, 164, 165, 166, 167, 168, 169, 170, 171, 172, 173, 174, 175, 176, 177, 178, 179, 180, 181, 182, 183, 184, 185, 186, 187, 188, 189, 190, 191, 192, 193, 194, 195, 196, 197, 198, 199, 200, 201, 202, 203, 204, 205, 206, 207, 208, 209, 210, 211, 212, 213, 214, 215, 216, 217, 218, 219, 220, 221, 222, 223, 224, 225, 226, 227, 228, 229, 230, 231, 256, 257, 258, 259, 260, 261, 262, 263] (by decide +kernel) (by decide +kernel)
set_option maxRecDepth 20000 in
theorem gX4_bits__X4_unsigned : GoodIn wsX4_bits_ (va_wsS RX4 116 yX4_unsigned wsX4_unsigned) := goodIn_app (goodIn_of _ (by decide +kernel)) ggX4_bits__X4_unsigned
set_option maxRecDepth 20000 in
theorem ggX4_bits__X4_writes : GoodIn wsX4_bits_ wsX4_writes := goodIn_r _ [235, 236, 237, 238, 239, 240, 147, 241, 199, 242, 243, 244, 245, 200, 198, 246, 247, 248, 249, 250, 251, 252, 253, 254, 255, 260, 261, 262, 263] (by decide +kernel) (by decide +kernel)
set_option maxRecDepth 20000 in
theorem gX4_bits__X4_writes : GoodIn wsX4_bits_ (wsV RX4 193 RX4 yX4_writes wsX4_writes) := goodIn_app (goodIn_of _ (by decide +kernel)) ggX4_bits__X4_writes
theorem dX4_bits__0 : decode cX4_bits_ 0 = .ok (.aload_n 0, 1) := by decide +kernel
theorem dX4_bits__1 : decode cX4_bits_ 1 = .ok (.iconst 0, 1) := by decide +kernel
theorem dX4_bits__2 : decode cX4_bits_ 2 = .ok (.putfield 27, 3) := by decide +kernel
theorem dX4_bits__5 : decode cX4_bits_ 5 = .ok (.iload_n 1, 1) := by decide +kernel
theorem dX4_bits__6 : decode cX4_bits_ 6 = .ok (.invokestatic 143, 3) := by decide +kernel
theorem dX4_bits__9 : decode cX4_bits_ 9 = .ok (.ifCond .ne 9, 3) := by decide +kernel
theorem dX4_bits__12 : decode cX4_bits_ 12 = .ok (.aload_n 0, 1) := by decide +kernel
theorem dX4_bits__13 : decode cX4_bits_ 13 = .ok (.iconst 1, 1) := by decide +kernel
theorem dX4_bits__14 : decode cX4_bits_ 14 = .ok (.invokevirtual 147, 3) := by decide +kernel
theorem dX4_bits__17 : decode cX4_bits_ 17 = .ok (.ireturn, 1) := by decide +kernel
theorem dX4_bits__18 : decode cX4_bits_ 18 = .ok (.iload_n 2, 1) := by decide +kernel
theorem dX4_bits__19 : decode cX4_bits_ 19 = .ok (.iconst 0, 1) := by decide +kernel
theorem dX4_bits__20 : decode cX4_bits_ 20 = .ok (.iconst 2, 1) := by decide +kernel
theorem dX4_bits__21 : decode cX4_bits_ 21 = .ok (.invokestatic 31, 3) := by decide +kernel
theorem dX4_bits__24 : decode cX4_bits_ 24 = .ok (.ifCond .eq 39, 3) := by decide +kernel
theorem dX4_bits__27 : decode cX4_bits_ 27 = .ok (.aload_n 0, 1) := by decide +kernel
theorem dX4_bits__28 : decode cX4_bits_ 28 = .ok (.aload_n 0, 1) := by decide +kernel
theorem dX4_bits__29 : decode cX4_bits_ 29 = .ok (.iload_n 1, 1) := by decide +kernel
theorem dX4_bits__30 : decode cX4_bits_ 30 = .ok (.iload_n 3, 1) := by decide +kernel
theorem dX4_bits__31 : decode cX4_bits_ 31 = .ok (.invokevirtual 120, 3) := by decide +kernel
theorem dX4_bits__34 : decode cX4_bits_ 34 = .ok (.iload_n 2, 1) := by decide +kernel
theorem dX4_bits__35 : decode cX4_bits_ 35 = .ok (.ifCond .ne 7, 3) := by decide +kernel
theorem dX4_bits__38 : decode cX4_bits_ 38 = .ok (.iconst 2, 1) := by decide +kernel
theorem dX4_bits__39 : decode cX4_bits_ 39 = .ok (.goto 15, 3) := by decide +kernel
theorem dX4_bits__42 : decode cX4_bits_ 42 = .ok (.iload_n 2, 1) := by decide +kernel
theorem dX4_bits__43 : decode cX4_bits_ 43 = .ok (.iconst 1, 1) := by decide +kernel
theorem dX4_bits__44 : decode cX4_bits_ 44 = .ok (.if_icmp .ne 8, 3) := by decide +kernel
theorem dX4_bits__47 : decode cX4_bits_ 47 = .ok (.bipush 8, 2) := by decide +kernel
theorem dX4_bits__49 : decode cX4_bits_ 49 = .ok (.goto 5, 3) := by decide +kernel
theorem dX4_bits__52 : decode cX4_bits_ 52 = .ok (.bipush 16, 2) := by decide +kernel
theorem dX4_bits__54 : decode cX4_bits_ 54 = .ok (.invokestatic 116, 3) := by decide +kernel
theorem dX4_bits__57 : decode cX4_bits_ 57 = .ok (.invokevirtual 193, 3) := by decide +kernel
theorem dX4_bits__60 : decode cX4_bits_ 60 = .ok (.goto 8, 3) := by decide +kernel
theorem dX4_bits__63 : decode cX4_bits_ 63 = .ok (.aload_n 0, 1) := by decide +kernel
theorem dX4_bits__64 : decode cX4_bits_ 64 = .ok (.iconst 2, 1) := by decide +kernel
theorem dX4_bits__65 : decode cX4_bits_ 65 = .ok (.invokevirtual 147, 3) := by decide +kernel
theorem dX4_bits__68 : decode cX4_bits_ 68 = .ok (.ireturn, 1) := by decide +kernel
set_option maxRecDepth 20000 in
theorem ggX4_faultOf_X4_isCell : GoodIn wsX4_faultOf wsX4_isCell := goodIn_r _ [4, 5, 6, 3, 7] (by decide +kernel) (by decide +kernel)
set_option maxRecDepth 20000 in
theorem gX4_faultOf_X4_isCell : GoodIn wsX4_faultOf (va_wsS RX4 143 yX4_isCell wsX4_isCell) := goodIn_app (goodIn_of _ (by decide +kernel)) ggX4_faultOf_X4_isCell
set_option maxRecDepth 20000 in
theorem ggX4_faultOf_X4_of : GoodIn wsX4_faultOf wsX4_of := goodIn_r _ [11, 12, 13, 14, 3, 15, 16, 20, 21, 22, 23, 24, 25, 26, 27, 28, 29] (by decide +kernel) (by decide +kernel)
set_option maxRecDepth 20000 in
theorem gX4_faultOf_X4_of : GoodIn wsX4_faultOf (wsV RX4 120 RX4 yX4_of wsX4_of) := goodIn_app (goodIn_of _ (by decide +kernel)) ggX4_faultOf_X4_of
set_option maxRecDepth 20000 in
theorem ggX4_faultOf_X4_isZero : GoodIn wsX4_faultOf wsX4_isZero := goodIn_r _ [19] (by decide +kernel) (by decide +kernel)
set_option maxRecDepth 20000 in
theorem gX4_faultOf_X4_isZero : GoodIn wsX4_faultOf (va_wsS RX4 93 yX4_isZero wsX4_isZero) := goodIn_app (goodIn_of _ (by decide +kernel)) ggX4_faultOf_X4_isZero
theorem dX4_faultOf_0 : decode cX4_faultOf 0 = .ok (.iload_n 1, 1) := by decide +kernel
theorem dX4_faultOf_1 : decode cX4_faultOf 1 = .ok (.invokestatic 143, 3) := by decide +kernel
theorem dX4_faultOf_4 : decode cX4_faultOf 4 = .ok (.ifCond .eq 10, 3) := by decide +kernel
theorem dX4_faultOf_7 : decode cX4_faultOf 7 = .ok (.iload_n 2, 1) := by decide +kernel
theorem dX4_faultOf_8 : decode cX4_faultOf 8 = .ok (.invokestatic 143, 3) := by decide +kernel
theorem dX4_faultOf_11 : decode cX4_faultOf 11 = .ok (.ifCond .ne 7, 3) := by decide +kernel
theorem dX4_faultOf_14 : decode cX4_faultOf 14 = .ok (.iconst 1, 1) := by decide +kernel
theorem dX4_faultOf_15 : decode cX4_faultOf 15 = .ok (.goto 20, 3) := by decide +kernel
theorem dX4_faultOf_18 : decode cX4_faultOf 18 = .ok (.aload_n 0, 1) := by decide +kernel
theorem dX4_faultOf_19 : decode cX4_faultOf 19 = .ok (.iload_n 2, 1) := by decide +kernel
theorem dX4_faultOf_20 : decode cX4_faultOf 20 = .ok (.iload_n 3, 1) := by decide +kernel
theorem dX4_faultOf_21 : decode cX4_faultOf 21 = .ok (.invokevirtual 120, 3) := by decide +kernel
theorem dX4_faultOf_24 : decode cX4_faultOf 24 = .ok (.invokestatic 93, 3) := by decide +kernel
theorem dX4_faultOf_27 : decode cX4_faultOf 27 = .ok (.ifCond .eq 7, 3) := by decide +kernel
theorem dX4_faultOf_30 : decode cX4_faultOf 30 = .ok (.iconst 2, 1) := by decide +kernel
theorem dX4_faultOf_31 : decode cX4_faultOf 31 = .ok (.goto 4, 3) := by decide +kernel
theorem dX4_faultOf_34 : decode cX4_faultOf 34 = .ok (.iconst 0, 1) := by decide +kernel
theorem dX4_faultOf_35 : decode cX4_faultOf 35 = .ok (.ireturn, 1) := by decide +kernel
set_option maxRecDepth 20000 in
theorem ggX4_divide_X4_faultOf : GoodIn wsX4_divide wsX4_faultOf := goodIn_r _ [6, 7, 8, 5, 9, 10, 11, 12, 13, 14, 15, 16, 17, 18, 19, 20, 21, 22, 23, 24, 66, 67, 68, 69, 70, 71, 72, 73, 74, 75] (by decide +kernel) (by decide +kernel)
set_option maxRecDepth 20000 in
theorem gX4_divide_X4_faultOf : GoodIn wsX4_divide (wsV RX4 196 RX4 yX4_faultOf wsX4_faultOf) := goodIn_app (goodIn_of _ (by decide +kernel)) ggX4_divide_X4_faultOf
set_option maxRecDepth 20000 in
theorem ggX4_divide_X4_of : GoodIn wsX4_divide wsX4_of := goodIn_r _ [16, 17, 18, 19, 5, 20, 21, 66, 67, 68, 69, 70, 71, 72, 73, 74, 75] (by decide +kernel) (by decide +kernel)
set_option maxRecDepth 20000 in
theorem gX4_divide_X4_of : GoodIn wsX4_divide (wsV RX4 120 RX4 yX4_of wsX4_of) := goodIn_app (goodIn_of _ (by decide +kernel)) ggX4_divide_X4_of
set_option maxRecDepth 20000 in
theorem ggX4_divide_X4_divided : GoodIn wsX4_divide wsX4_divided := goodIn_r _ [27, 28, 21, 29, 30, 5, 31, 32, 33, 34, 35, 36, 37, 38, 39, 40, 41, 42, 43, 44, 45, 46, 47, 48, 49, 50, 51, 52, 53, 54, 55] (by decide +kernel) (by decide +kernel)
set_option maxRecDepth 20000 in
theorem gX4_divide_X4_divided : GoodIn wsX4_divide (va_wsS RX4 200 yX4_divided wsX4_divided) := goodIn_app (goodIn_of _ (by decide +kernel)) ggX4_divide_X4_divided
set_option maxRecDepth 20000 in
theorem ggX4_divide_X4_become : GoodIn wsX4_divide wsX4_become := goodIn_r _ [59, 17, 60, 61, 5, 62, 21, 52, 32, 33, 34, 35, 63, 64, 65, 66, 67, 68, 69, 70, 71, 72, 73, 74, 75] (by decide +kernel) (by decide +kernel)
set_option maxRecDepth 20000 in
theorem gX4_divide_X4_become : GoodIn wsX4_divide (wsV RX4 160 RX4 yX4_become wsX4_become) := goodIn_app (goodIn_of _ (by decide +kernel)) ggX4_divide_X4_become
set_option maxRecDepth 20000 in
theorem ggX4_divide_X4_isZero : GoodIn wsX4_divide wsX4_isZero := goodIn_r _ [24] (by decide +kernel) (by decide +kernel)
set_option maxRecDepth 20000 in
theorem gX4_divide_X4_isZero : GoodIn wsX4_divide (va_wsS RX4 93 yX4_isZero wsX4_isZero) := goodIn_app (goodIn_of _ (by decide +kernel)) ggX4_divide_X4_isZero
theorem dX4_divide_0 : decode cX4_divide 0 = .ok (.aload_n 0, 1) := by decide +kernel
theorem dX4_divide_1 : decode cX4_divide 1 = .ok (.aload_n 0, 1) := by decide +kernel
theorem dX4_divide_2 : decode cX4_divide 2 = .ok (.iload_n 1, 1) := by decide +kernel
theorem dX4_divide_3 : decode cX4_divide 3 = .ok (.iload_n 2, 1) := by decide +kernel
theorem dX4_divide_4 : decode cX4_divide 4 = .ok (.iload_n 3, 1) := by decide +kernel
theorem dX4_divide_5 : decode cX4_divide 5 = .ok (.invokevirtual 196, 3) := by decide +kernel
theorem dX4_divide_8 : decode cX4_divide 8 = .ok (.putfield 27, 3) := by decide +kernel
theorem dX4_divide_11 : decode cX4_divide 11 = .ok (.aload_n 0, 1) := by decide +kernel
theorem dX4_divide_12 : decode cX4_divide 12 = .ok (.getfield 27, 3) := by decide +kernel
theorem dX4_divide_15 : decode cX4_divide 15 = .ok (.ifCond .le 5, 3) := by decide +kernel
theorem dX4_divide_18 : decode cX4_divide 18 = .ok (.iconst 0, 1) := by decide +kernel
theorem dX4_divide_19 : decode cX4_divide 19 = .ok (.ireturn, 1) := by decide +kernel
theorem dX4_divide_20 : decode cX4_divide 20 = .ok (.aload_n 0, 1) := by decide +kernel
theorem dX4_divide_21 : decode cX4_divide 21 = .ok (.iload_n 1, 1) := by decide +kernel
theorem dX4_divide_22 : decode cX4_divide 22 = .ok (.iload_n 3, 1) := by decide +kernel
theorem dX4_divide_23 : decode cX4_divide 23 = .ok (.invokevirtual 120, 3) := by decide +kernel
theorem dX4_divide_26 : decode cX4_divide 26 = .ok (.aload_n 0, 1) := by decide +kernel
theorem dX4_divide_27 : decode cX4_divide 27 = .ok (.iload_n 2, 1) := by decide +kernel
theorem dX4_divide_28 : decode cX4_divide 28 = .ok (.iload_n 3, 1) := by decide +kernel
theorem dX4_divide_29 : decode cX4_divide 29 = .ok (.invokevirtual 120, 3) := by decide +kernel
theorem dX4_divide_32 : decode cX4_divide 32 = .ok (.invokestatic 200, 3) := by decide +kernel
theorem dX4_divide_35 : decode cX4_divide 35 = .ok (.astore 4, 2) := by decide +kernel
theorem dX4_divide_37 : decode cX4_divide 37 = .ok (.aload_n 0, 1) := by decide +kernel
theorem dX4_divide_38 : decode cX4_divide 38 = .ok (.iload_n 1, 1) := by decide +kernel
theorem dX4_divide_39 : decode cX4_divide 39 = .ok (.aload 4, 2) := by decide +kernel
theorem dX4_divide_41 : decode cX4_divide 41 = .ok (.iconst 0, 1) := by decide +kernel
theorem dX4_divide_42 : decode cX4_divide 42 = .ok (.aaload, 1) := by decide +kernel
theorem dX4_divide_43 : decode cX4_divide 43 = .ok (.invokevirtual 160, 3) := by decide +kernel
theorem dX4_divide_46 : decode cX4_divide 46 = .ok (.pop, 1) := by decide +kernel
theorem dX4_divide_47 : decode cX4_divide 47 = .ok (.aload 4, 2) := by decide +kernel
theorem dX4_divide_49 : decode cX4_divide 49 = .ok (.iconst 1, 1) := by decide +kernel
theorem dX4_divide_50 : decode cX4_divide 50 = .ok (.aaload, 1) := by decide +kernel
theorem dX4_divide_51 : decode cX4_divide 51 = .ok (.invokestatic 93, 3) := by decide +kernel
theorem dX4_divide_54 : decode cX4_divide 54 = .ok (.ifCond .ne 7, 3) := by decide +kernel
theorem dX4_divide_57 : decode cX4_divide 57 = .ok (.iconst 1, 1) := by decide +kernel
theorem dX4_divide_58 : decode cX4_divide 58 = .ok (.goto 4, 3) := by decide +kernel
theorem dX4_divide_61 : decode cX4_divide 61 = .ok (.iconst 0, 1) := by decide +kernel
theorem dX4_divide_62 : decode cX4_divide 62 = .ok (.ireturn, 1) := by decide +kernel
set_option maxRecDepth 20000 in
theorem ggX4_rest_X4_faultOf : GoodIn wsX4_rest wsX4_faultOf := goodIn_r _ [6, 7, 8, 5, 9, 10, 11, 12, 13, 14, 15, 16, 17, 18, 19, 20, 21, 22, 23, 24, 66, 67, 68, 69, 70, 71, 72, 73, 74, 75] (by decide +kernel) (by decide +kernel)
set_option maxRecDepth 20000 in
theorem gX4_rest_X4_faultOf : GoodIn wsX4_rest (wsV RX4 196 RX4 yX4_faultOf wsX4_faultOf) := goodIn_app (goodIn_of _ (by decide +kernel)) ggX4_rest_X4_faultOf
set_option maxRecDepth 20000 in
theorem ggX4_rest_X4_of : GoodIn wsX4_rest wsX4_of := goodIn_r _ [16, 17, 18, 19, 5, 20, 21, 66, 67, 68, 69, 70, 71, 72, 73, 74, 75] (by decide +kernel) (by decide +kernel)
set_option maxRecDepth 20000 in
theorem gX4_rest_X4_of : GoodIn wsX4_rest (wsV RX4 120 RX4 yX4_of wsX4_of) := goodIn_app (goodIn_of _ (by decide +kernel)) ggX4_rest_X4_of
set_option maxRecDepth 20000 in
theorem ggX4_rest_X4_divided : GoodIn wsX4_rest wsX4_divided := goodIn_r _ [27, 28, 21, 29, 30, 5, 31, 32, 33, 34, 35, 36, 37, 38, 39, 40, 41, 42, 43, 44, 45, 46, 47, 48, 49, 50, 51, 52, 53, 54, 55] (by decide +kernel) (by decide +kernel)
set_option maxRecDepth 20000 in
theorem gX4_rest_X4_divided : GoodIn wsX4_rest (va_wsS RX4 200 yX4_divided wsX4_divided) := goodIn_app (goodIn_of _ (by decide +kernel)) ggX4_rest_X4_divided
set_option maxRecDepth 20000 in
theorem ggX4_rest_X4_become : GoodIn wsX4_rest wsX4_become := goodIn_r _ [59, 17, 60, 61, 5, 62, 21, 52, 32, 33, 34, 35, 63, 64, 65, 66, 67, 68, 69, 70, 71, 72, 73, 74, 75] (by decide +kernel) (by decide +kernel)
set_option maxRecDepth 20000 in
theorem gX4_rest_X4_become : GoodIn wsX4_rest (wsV RX4 160 RX4 yX4_become wsX4_become) := goodIn_app (goodIn_of _ (by decide +kernel)) ggX4_rest_X4_become
set_option maxRecDepth 20000 in
theorem ggX4_rest_X4_isZero : GoodIn wsX4_rest wsX4_isZero := goodIn_r _ [24] (by decide +kernel) (by decide +kernel)
set_option maxRecDepth 20000 in
theorem gX4_rest_X4_isZero : GoodIn wsX4_rest (va_wsS RX4 93 yX4_isZero wsX4_isZero) := goodIn_app (goodIn_of _ (by decide +kernel)) ggX4_rest_X4_isZero
theorem dX4_rest_0 : decode cX4_rest 0 = .ok (.aload_n 0, 1) := by decide +kernel
theorem dX4_rest_1 : decode cX4_rest 1 = .ok (.aload_n 0, 1) := by decide +kernel
theorem dX4_rest_2 : decode cX4_rest 2 = .ok (.iload_n 1, 1) := by decide +kernel
theorem dX4_rest_3 : decode cX4_rest 3 = .ok (.iload_n 2, 1) := by decide +kernel
theorem dX4_rest_4 : decode cX4_rest 4 = .ok (.iload_n 3, 1) := by decide +kernel
theorem dX4_rest_5 : decode cX4_rest 5 = .ok (.invokevirtual 196, 3) := by decide +kernel
theorem dX4_rest_8 : decode cX4_rest 8 = .ok (.putfield 27, 3) := by decide +kernel
theorem dX4_rest_11 : decode cX4_rest 11 = .ok (.aload_n 0, 1) := by decide +kernel
theorem dX4_rest_12 : decode cX4_rest 12 = .ok (.getfield 27, 3) := by decide +kernel
theorem dX4_rest_15 : decode cX4_rest 15 = .ok (.ifCond .le 5, 3) := by decide +kernel
theorem dX4_rest_18 : decode cX4_rest 18 = .ok (.iconst 0, 1) := by decide +kernel
theorem dX4_rest_19 : decode cX4_rest 19 = .ok (.ireturn, 1) := by decide +kernel
theorem dX4_rest_20 : decode cX4_rest 20 = .ok (.aload_n 0, 1) := by decide +kernel
theorem dX4_rest_21 : decode cX4_rest 21 = .ok (.iload_n 1, 1) := by decide +kernel
theorem dX4_rest_22 : decode cX4_rest 22 = .ok (.iload_n 3, 1) := by decide +kernel
theorem dX4_rest_23 : decode cX4_rest 23 = .ok (.invokevirtual 120, 3) := by decide +kernel
theorem dX4_rest_26 : decode cX4_rest 26 = .ok (.aload_n 0, 1) := by decide +kernel
theorem dX4_rest_27 : decode cX4_rest 27 = .ok (.iload_n 2, 1) := by decide +kernel
theorem dX4_rest_28 : decode cX4_rest 28 = .ok (.iload_n 3, 1) := by decide +kernel
theorem dX4_rest_29 : decode cX4_rest 29 = .ok (.invokevirtual 120, 3) := by decide +kernel
theorem dX4_rest_32 : decode cX4_rest 32 = .ok (.invokestatic 200, 3) := by decide +kernel
theorem dX4_rest_35 : decode cX4_rest 35 = .ok (.iconst 1, 1) := by decide +kernel
theorem dX4_rest_36 : decode cX4_rest 36 = .ok (.aaload, 1) := by decide +kernel
theorem dX4_rest_37 : decode cX4_rest 37 = .ok (.astore 4, 2) := by decide +kernel
theorem dX4_rest_39 : decode cX4_rest 39 = .ok (.aload_n 0, 1) := by decide +kernel
theorem dX4_rest_40 : decode cX4_rest 40 = .ok (.iload_n 1, 1) := by decide +kernel
theorem dX4_rest_41 : decode cX4_rest 41 = .ok (.aload 4, 2) := by decide +kernel
theorem dX4_rest_43 : decode cX4_rest 43 = .ok (.invokevirtual 160, 3) := by decide +kernel
theorem dX4_rest_46 : decode cX4_rest 46 = .ok (.pop, 1) := by decide +kernel
theorem dX4_rest_47 : decode cX4_rest 47 = .ok (.aload 4, 2) := by decide +kernel
theorem dX4_rest_49 : decode cX4_rest 49 = .ok (.invokestatic 93, 3) := by decide +kernel
theorem dX4_rest_52 : decode cX4_rest 52 = .ok (.ireturn, 1) := by decide +kernel
set_option maxRecDepth 20000 in
theorem ggX4_turned_X4_bits : GoodIn wsX4_turned wsX4_bits := goodIn_r _ [5] (by decide +kernel) (by decide +kernel)
set_option maxRecDepth 20000 in
theorem gX4_turned_X4_bits : GoodIn wsX4_turned (va_wsS RX4 66 yX4_bits wsX4_bits) := goodIn_app (goodIn_of _ (by decide +kernel)) ggX4_turned_X4_bits
set_option maxRecDepth 20000 in
theorem ggX4_turned_X4_bit : GoodIn wsX4_turned wsX4_bit := goodIn_r _ [8, 9, 10, 4, 11] (by decide +kernel) (by decide +kernel)
set_option maxRecDepth 20000 in
theorem gX4_turned_X4_bit : GoodIn wsX4_turned (va_wsS RX4 39 yX4_bit wsX4_bit) := goodIn_app (goodIn_of _ (by decide +kernel)) ggX4_turned_X4_bit
set_option maxRecDepth 20000 in
theorem ggX4_turned_X4_set : GoodIn wsX4_turned wsX4_set := goodIn_r _ [14, 6, 7, 4, 8, 9, 10, 11] (by decide +kernel) (by decide +kernel)
set_option maxRecDepth 20000 in
theorem gX4_turned_X4_set : GoodIn wsX4_turned (va_wsS RX4 77 yX4_set wsX4_set) := goodIn_app (goodIn_of _ (by decide +kernel)) ggX4_turned_X4_set
theorem dX4_turned_0 : decode cX4_turned 0 = .ok (.aload_n 0, 1) := by decide +kernel
theorem dX4_turned_1 : decode cX4_turned 1 = .ok (.arraylength, 1) := by decide +kernel
theorem dX4_turned_2 : decode cX4_turned 2 = .ok (.newarray .int, 2) := by decide +kernel
theorem dX4_turned_4 : decode cX4_turned 4 = .ok (.astore_n 2, 1) := by decide +kernel
theorem dX4_turned_5 : decode cX4_turned 5 = .ok (.iload_n 1, 1) := by decide +kernel
theorem dX4_turned_6 : decode cX4_turned 6 = .ok (.aload_n 0, 1) := by decide +kernel
theorem dX4_turned_7 : decode cX4_turned 7 = .ok (.invokestatic 66, 3) := by decide +kernel
theorem dX4_turned_10 : decode cX4_turned 10 = .ok (.irem, 1) := by decide +kernel
theorem dX4_turned_11 : decode cX4_turned 11 = .ok (.aload_n 0, 1) := by decide +kernel
theorem dX4_turned_12 : decode cX4_turned 12 = .ok (.invokestatic 66, 3) := by decide +kernel
theorem dX4_turned_15 : decode cX4_turned 15 = .ok (.iadd, 1) := by decide +kernel
theorem dX4_turned_16 : decode cX4_turned 16 = .ok (.istore_n 3, 1) := by decide +kernel
theorem dX4_turned_17 : decode cX4_turned 17 = .ok (.iconst 0, 1) := by decide +kernel
theorem dX4_turned_18 : decode cX4_turned 18 = .ok (.istore 4, 2) := by decide +kernel
theorem dX4_turned_20 : decode cX4_turned 20 = .ok (.iload 4, 2) := by decide +kernel
theorem dX4_turned_22 : decode cX4_turned 22 = .ok (.aload_n 0, 1) := by decide +kernel
theorem dX4_turned_23 : decode cX4_turned 23 = .ok (.invokestatic 66, 3) := by decide +kernel
theorem dX4_turned_26 : decode cX4_turned 26 = .ok (.if_icmp .ge 28, 3) := by decide +kernel
theorem dX4_turned_29 : decode cX4_turned 29 = .ok (.aload_n 2, 1) := by decide +kernel
theorem dX4_turned_30 : decode cX4_turned 30 = .ok (.iload 4, 2) := by decide +kernel
theorem dX4_turned_32 : decode cX4_turned 32 = .ok (.iload_n 3, 1) := by decide +kernel
theorem dX4_turned_33 : decode cX4_turned 33 = .ok (.iadd, 1) := by decide +kernel
theorem dX4_turned_34 : decode cX4_turned 34 = .ok (.aload_n 0, 1) := by decide +kernel
theorem dX4_turned_35 : decode cX4_turned 35 = .ok (.invokestatic 66, 3) := by decide +kernel
theorem dX4_turned_38 : decode cX4_turned 38 = .ok (.irem, 1) := by decide +kernel
theorem dX4_turned_39 : decode cX4_turned 39 = .ok (.aload_n 0, 1) := by decide +kernel
theorem dX4_turned_40 : decode cX4_turned 40 = .ok (.iload 4, 2) := by decide +kernel
theorem dX4_turned_42 : decode cX4_turned 42 = .ok (.invokestatic 39, 3) := by decide +kernel
theorem dX4_turned_45 : decode cX4_turned 45 = .ok (.invokestatic 77, 3) := by decide +kernel
theorem dX4_turned_48 : decode cX4_turned 48 = .ok (.iinc 4 1, 3) := by decide +kernel
theorem dX4_turned_51 : decode cX4_turned 51 = .ok (.goto (-31), 3) := by decide +kernel
theorem dX4_turned_54 : decode cX4_turned 54 = .ok (.aload_n 2, 1) := by decide +kernel
theorem dX4_turned_55 : decode cX4_turned 55 = .ok (.areturn, 1) := by decide +kernel
set_option maxRecDepth 20000 in
theorem ggX4_turn_X4_isCell : GoodIn wsX4_turn wsX4_isCell := goodIn_r _ [5, 6, 7, 4, 8] (by decide +kernel) (by decide +kernel)
set_option maxRecDepth 20000 in
theorem gX4_turn_X4_isCell : GoodIn wsX4_turn (va_wsS RX4 143 yX4_isCell wsX4_isCell) := goodIn_app (goodIn_of _ (by decide +kernel)) ggX4_turn_X4_isCell
set_option maxRecDepth 20000 in
theorem ggX4_turn_X4_refuses : GoodIn wsX4_turn wsX4_refuses := goodIn_r _ [12, 1, 52, 53, 54, 55, 56, 57, 58, 59, 60, 61] (by decide +kernel) (by decide +kernel)
set_option maxRecDepth 20000 in
theorem gX4_turn_X4_refuses : GoodIn wsX4_turn (wsV RX4 157 RX4 yX4_refuses wsX4_refuses) := goodIn_app (goodIn_of _ (by decide +kernel)) ggX4_turn_X4_refuses
set_option maxRecDepth 20000 in
theorem ggX4_turn_X4_of : GoodIn wsX4_turn wsX4_of := goodIn_r _ [16, 17, 18, 19, 4, 20, 21, 52, 53, 54, 55, 56, 57, 58, 59, 60, 61] (by decide +kernel) (by decide +kernel)
set_option maxRecDepth 20000 in
theorem gX4_turn_X4_of : GoodIn wsX4_turn (wsV RX4 120 RX4 yX4_of wsX4_of) := goodIn_app (goodIn_of _ (by decide +kernel)) ggX4_turn_X4_of
set_option maxRecDepth 20000 in
theorem ggX4_turn_X4_turned : GoodIn wsX4_turn wsX4_turned := goodIn_r _ [24, 21, 25, 26, 4, 27, 28, 29, 30, 31, 32, 33, 34, 35, 36] (by decide +kernel) (by decide +kernel)
set_option maxRecDepth 20000 in
theorem gX4_turn_X4_turned : GoodIn wsX4_turn (va_wsS RX4 204 yX4_turned wsX4_turned) := goodIn_app (goodIn_of _ (by decide +kernel)) ggX4_turn_X4_turned
set_option maxRecDepth 20000 in
theorem ggX4_turn_X4_become : GoodIn wsX4_turn wsX4_become := goodIn_r _ [40, 17, 41, 42, 4, 43, 21, 44, 45, 46, 47, 48, 49, 50, 51, 52, 53, 54, 55, 56, 57, 58, 59, 60, 61] (by decide +kernel) (by decide +kernel)
set_option maxRecDepth 20000 in
theorem gX4_turn_X4_become : GoodIn wsX4_turn (wsV RX4 160 RX4 yX4_become wsX4_become) := goodIn_app (goodIn_of _ (by decide +kernel)) ggX4_turn_X4_become
theorem dX4_turn_0 : decode cX4_turn 0 = .ok (.aload_n 0, 1) := by decide +kernel
theorem dX4_turn_1 : decode cX4_turn 1 = .ok (.iconst 0, 1) := by decide +kernel
theorem dX4_turn_2 : decode cX4_turn 2 = .ok (.putfield 27, 3) := by decide +kernel
theorem dX4_turn_5 : decode cX4_turn 5 = .ok (.iload_n 1, 1) := by decide +kernel
theorem dX4_turn_6 : decode cX4_turn 6 = .ok (.invokestatic 143, 3) := by decide +kernel
theorem dX4_turn_9 : decode cX4_turn 9 = .ok (.ifCond .ne 9, 3) := by decide +kernel
theorem dX4_turn_12 : decode cX4_turn 12 = .ok (.aload_n 0, 1) := by decide +kernel
theorem dX4_turn_13 : decode cX4_turn 13 = .ok (.iconst 1, 1) := by decide +kernel
theorem dX4_turn_14 : decode cX4_turn 14 = .ok (.invokevirtual 157, 3) := by decide +kernel
theorem dX4_turn_17 : decode cX4_turn 17 = .ok (.ireturn, 1) := by decide +kernel
theorem dX4_turn_18 : decode cX4_turn 18 = .ok (.aload_n 0, 1) := by decide +kernel
theorem dX4_turn_19 : decode cX4_turn 19 = .ok (.iload_n 1, 1) := by decide +kernel
theorem dX4_turn_20 : decode cX4_turn 20 = .ok (.aload_n 0, 1) := by decide +kernel
theorem dX4_turn_21 : decode cX4_turn 21 = .ok (.iload_n 1, 1) := by decide +kernel
theorem dX4_turn_22 : decode cX4_turn 22 = .ok (.iload_n 3, 1) := by decide +kernel
theorem dX4_turn_23 : decode cX4_turn 23 = .ok (.invokevirtual 120, 3) := by decide +kernel
theorem dX4_turn_26 : decode cX4_turn 26 = .ok (.iload_n 2, 1) := by decide +kernel
theorem dX4_turn_27 : decode cX4_turn 27 = .ok (.invokestatic 204, 3) := by decide +kernel
theorem dX4_turn_30 : decode cX4_turn 30 = .ok (.invokevirtual 160, 3) := by decide +kernel
theorem dX4_turn_33 : decode cX4_turn 33 = .ok (.ireturn, 1) := by decide +kernel
set_option maxRecDepth 20000 in
theorem ggX4_backward_X4_bits : GoodIn wsX4_backward wsX4_bits := goodIn_r _ [5] (by decide +kernel) (by decide +kernel)
set_option maxRecDepth 20000 in
theorem gX4_backward_X4_bits : GoodIn wsX4_backward (va_wsS RX4 66 yX4_bits wsX4_bits) := goodIn_app (goodIn_of _ (by decide +kernel)) ggX4_backward_X4_bits
set_option maxRecDepth 20000 in
theorem ggX4_backward_X4_bit : GoodIn wsX4_backward wsX4_bit := goodIn_r _ [8, 9, 10, 4, 11] (by decide +kernel) (by decide +kernel)
set_option maxRecDepth 20000 in
theorem gX4_backward_X4_bit : GoodIn wsX4_backward (va_wsS RX4 39 yX4_bit wsX4_bit) := goodIn_app (goodIn_of _ (by decide +kernel)) ggX4_backward_X4_bit
set_option maxRecDepth 20000 in
theorem ggX4_backward_X4_set : GoodIn wsX4_backward wsX4_set := goodIn_r _ [14, 6, 7, 4, 8, 9, 10, 11] (by decide +kernel) (by decide +kernel)
set_option maxRecDepth 20000 in
theorem gX4_backward_X4_set : GoodIn wsX4_backward (va_wsS RX4 77 yX4_set wsX4_set) := goodIn_app (goodIn_of _ (by decide +kernel)) ggX4_backward_X4_set
theorem dX4_backward_0 : decode cX4_backward 0 = .ok (.aload_n 0, 1) := by decide +kernel
theorem dX4_backward_1 : decode cX4_backward 1 = .ok (.arraylength, 1) := by decide +kernel
theorem dX4_backward_2 : decode cX4_backward 2 = .ok (.newarray .int, 2) := by decide +kernel
theorem dX4_backward_4 : decode cX4_backward 4 = .ok (.astore_n 2, 1) := by decide +kernel
theorem dX4_backward_5 : decode cX4_backward 5 = .ok (.aload_n 0, 1) := by decide +kernel
theorem dX4_backward_6 : decode cX4_backward 6 = .ok (.invokestatic 66, 3) := by decide +kernel
theorem dX4_backward_9 : decode cX4_backward 9 = .ok (.istore_n 3, 1) := by decide +kernel
theorem dX4_backward_10 : decode cX4_backward 10 = .ok (.iconst 0, 1) := by decide +kernel
theorem dX4_backward_11 : decode cX4_backward 11 = .ok (.istore 4, 2) := by decide +kernel
theorem dX4_backward_13 : decode cX4_backward 13 = .ok (.iload 4, 2) := by decide +kernel
theorem dX4_backward_15 : decode cX4_backward 15 = .ok (.iload_n 3, 1) := by decide +kernel
theorem dX4_backward_16 : decode cX4_backward 16 = .ok (.if_icmp .ge 57, 3) := by decide +kernel
theorem dX4_backward_19 : decode cX4_backward 19 = .ok (.iload_n 1, 1) := by decide +kernel
theorem dX4_backward_20 : decode cX4_backward 20 = .ok (.ifCond .eq 27, 3) := by decide +kernel
theorem dX4_backward_23 : decode cX4_backward 23 = .ok (.bipush 8, 2) := by decide +kernel
theorem dX4_backward_25 : decode cX4_backward 25 = .ok (.iload_n 3, 1) := by decide +kernel
theorem dX4_backward_26 : decode cX4_backward 26 = .ok (.bipush 8, 2) := by decide +kernel
theorem dX4_backward_28 : decode cX4_backward 28 = .ok (.idiv, 1) := by decide +kernel
theorem dX4_backward_29 : decode cX4_backward 29 = .ok (.iconst 1, 1) := by decide +kernel
theorem dX4_backward_30 : decode cX4_backward 30 = .ok (.isub, 1) := by decide +kernel
theorem dX4_backward_31 : decode cX4_backward 31 = .ok (.iload 4, 2) := by decide +kernel
theorem dX4_backward_33 : decode cX4_backward 33 = .ok (.bipush 8, 2) := by decide +kernel
theorem dX4_backward_35 : decode cX4_backward 35 = .ok (.idiv, 1) := by decide +kernel
theorem dX4_backward_36 : decode cX4_backward 36 = .ok (.isub, 1) := by decide +kernel
theorem dX4_backward_37 : decode cX4_backward 37 = .ok (.imul, 1) := by decide +kernel
theorem dX4_backward_38 : decode cX4_backward 38 = .ok (.iload 4, 2) := by decide +kernel
theorem dX4_backward_40 : decode cX4_backward 40 = .ok (.bipush 8, 2) := by decide +kernel
theorem dX4_backward_42 : decode cX4_backward 42 = .ok (.irem, 1) := by decide +kernel
theorem dX4_backward_43 : decode cX4_backward 43 = .ok (.iadd, 1) := by decide +kernel
theorem dX4_backward_44 : decode cX4_backward 44 = .ok (.goto 9, 3) := by decide +kernel
theorem dX4_backward_47 : decode cX4_backward 47 = .ok (.iload_n 3, 1) := by decide +kernel
theorem dX4_backward_48 : decode cX4_backward 48 = .ok (.iconst 1, 1) := by decide +kernel
theorem dX4_backward_49 : decode cX4_backward 49 = .ok (.isub, 1) := by decide +kernel
theorem dX4_backward_50 : decode cX4_backward 50 = .ok (.iload 4, 2) := by decide +kernel
theorem dX4_backward_52 : decode cX4_backward 52 = .ok (.isub, 1) := by decide +kernel
theorem dX4_backward_53 : decode cX4_backward 53 = .ok (.istore 5, 2) := by decide +kernel
theorem dX4_backward_55 : decode cX4_backward 55 = .ok (.aload_n 2, 1) := by decide +kernel
theorem dX4_backward_56 : decode cX4_backward 56 = .ok (.iload 5, 2) := by decide +kernel
theorem dX4_backward_58 : decode cX4_backward 58 = .ok (.aload_n 0, 1) := by decide +kernel
theorem dX4_backward_59 : decode cX4_backward 59 = .ok (.iload 4, 2) := by decide +kernel
theorem dX4_backward_61 : decode cX4_backward 61 = .ok (.invokestatic 39, 3) := by decide +kernel
theorem dX4_backward_64 : decode cX4_backward 64 = .ok (.invokestatic 77, 3) := by decide +kernel
theorem dX4_backward_67 : decode cX4_backward 67 = .ok (.iinc 4 1, 3) := by decide +kernel
theorem dX4_backward_70 : decode cX4_backward 70 = .ok (.goto (-57), 3) := by decide +kernel
theorem dX4_backward_73 : decode cX4_backward 73 = .ok (.aload_n 2, 1) := by decide +kernel
theorem dX4_backward_74 : decode cX4_backward 74 = .ok (.areturn, 1) := by decide +kernel
set_option maxRecDepth 20000 in
theorem ggX4_about_X4_isCell : GoodIn wsX4_about wsX4_isCell := goodIn_r _ [5, 6, 7, 4, 8] (by decide +kernel) (by decide +kernel)
set_option maxRecDepth 20000 in
theorem gX4_about_X4_isCell : GoodIn wsX4_about (va_wsS RX4 143 yX4_isCell wsX4_isCell) := goodIn_app (goodIn_of _ (by decide +kernel)) ggX4_about_X4_isCell
set_option maxRecDepth 20000 in
theorem ggX4_about_X4_refuses : GoodIn wsX4_about wsX4_refuses := goodIn_r _ [12, 1, 52, 53, 54, 55, 56, 57, 58, 59, 60, 61] (by decide +kernel) (by decide +kernel)
set_option maxRecDepth 20000 in
theorem gX4_about_X4_refuses : GoodIn wsX4_about (wsV RX4 157 RX4 yX4_refuses wsX4_refuses) := goodIn_app (goodIn_of _ (by decide +kernel)) ggX4_about_X4_refuses
set_option maxRecDepth 20000 in
theorem ggX4_about_X4_of : GoodIn wsX4_about wsX4_of := goodIn_r _ [16, 17, 18, 19, 4, 20, 21, 52, 53, 54, 55, 56, 57, 58, 59, 60, 61] (by decide +kernel) (by decide +kernel)
set_option maxRecDepth 20000 in
theorem gX4_about_X4_of : GoodIn wsX4_about (wsV RX4 120 RX4 yX4_of wsX4_of) := goodIn_app (goodIn_of _ (by decide +kernel)) ggX4_about_X4_of
set_option maxRecDepth 20000 in
theorem ggX4_about_X4_backward : GoodIn wsX4_about wsX4_backward := goodIn_r _ [24, 21, 25, 26, 4, 27, 28, 29, 30, 31, 32, 33, 34, 35, 36] (by decide +kernel) (by decide +kernel)
set_option maxRecDepth 20000 in
theorem gX4_about_X4_backward : GoodIn wsX4_about (va_wsS RX4 207 yX4_backward wsX4_backward) := goodIn_app (goodIn_of _ (by decide +kernel)) ggX4_about_X4_backward
set_option maxRecDepth 20000 in
theorem ggX4_about_X4_become : GoodIn wsX4_about wsX4_become := goodIn_r _ [40, 17, 41, 42, 4, 43, 21, 44, 45, 46, 47, 48, 49, 50, 51, 52, 53, 54, 55, 56, 57, 58, 59, 60, 61] (by decide +kernel) (by decide +kernel)
set_option maxRecDepth 20000 in
theorem gX4_about_X4_become : GoodIn wsX4_about (wsV RX4 160 RX4 yX4_become wsX4_become) := goodIn_app (goodIn_of _ (by decide +kernel)) ggX4_about_X4_become
theorem dX4_about_0 : decode cX4_about 0 = .ok (.aload_n 0, 1) := by decide +kernel
theorem dX4_about_1 : decode cX4_about 1 = .ok (.iconst 0, 1) := by decide +kernel
theorem dX4_about_2 : decode cX4_about 2 = .ok (.putfield 27, 3) := by decide +kernel
theorem dX4_about_5 : decode cX4_about 5 = .ok (.iload_n 1, 1) := by decide +kernel
theorem dX4_about_6 : decode cX4_about 6 = .ok (.invokestatic 143, 3) := by decide +kernel
theorem dX4_about_9 : decode cX4_about 9 = .ok (.ifCond .ne 9, 3) := by decide +kernel
theorem dX4_about_12 : decode cX4_about 12 = .ok (.aload_n 0, 1) := by decide +kernel
theorem dX4_about_13 : decode cX4_about 13 = .ok (.iconst 1, 1) := by decide +kernel
theorem dX4_about_14 : decode cX4_about 14 = .ok (.invokevirtual 157, 3) := by decide +kernel
theorem dX4_about_17 : decode cX4_about 17 = .ok (.ireturn, 1) := by decide +kernel
theorem dX4_about_18 : decode cX4_about 18 = .ok (.aload_n 0, 1) := by decide +kernel
theorem dX4_about_19 : decode cX4_about 19 = .ok (.iload_n 1, 1) := by decide +kernel
theorem dX4_about_20 : decode cX4_about 20 = .ok (.aload_n 0, 1) := by decide +kernel
theorem dX4_about_21 : decode cX4_about 21 = .ok (.iload_n 1, 1) := by decide +kernel
theorem dX4_about_22 : decode cX4_about 22 = .ok (.iload_n 3, 1) := by decide +kernel
theorem dX4_about_23 : decode cX4_about 23 = .ok (.invokevirtual 120, 3) := by decide +kernel
theorem dX4_about_26 : decode cX4_about 26 = .ok (.iload_n 2, 1) := by decide +kernel
theorem dX4_about_27 : decode cX4_about 27 = .ok (.invokestatic 207, 3) := by decide +kernel
theorem dX4_about_30 : decode cX4_about 30 = .ok (.invokevirtual 160, 3) := by decide +kernel
theorem dX4_about_33 : decode cX4_about 33 = .ok (.ireturn, 1) := by decide +kernel
set_option maxRecDepth 20000 in
theorem ggX4_pick_X4_isCell : GoodIn wsX4_pick wsX4_isCell := goodIn_r _ [6, 7, 8, 5, 9] (by decide +kernel) (by decide +kernel)
set_option maxRecDepth 20000 in
theorem gX4_pick_X4_isCell : GoodIn wsX4_pick (va_wsS RX4 143 yX4_isCell wsX4_isCell) := goodIn_app (goodIn_of _ (by decide +kernel)) ggX4_pick_X4_isCell
set_option maxRecDepth 20000 in
theorem ggX4_pick_X4_refuse : GoodIn wsX4_pick wsX4_refuse := goodIn_r _ [13, 1, 52, 53, 54, 55, 56, 57, 58, 59, 60, 61] (by decide +kernel) (by decide +kernel)
set_option maxRecDepth 20000 in
theorem gX4_pick_X4_refuse : GoodIn wsX4_pick (wsV RX4 147 RX4 yX4_refuse wsX4_refuse) := goodIn_app (goodIn_of _ (by decide +kernel)) ggX4_pick_X4_refuse
set_option maxRecDepth 20000 in
theorem ggX4_pick_X4_of : GoodIn wsX4_pick wsX4_of := goodIn_r _ [17, 18, 19, 20, 5, 21, 2, 52, 53, 54, 55, 56, 57, 58, 59, 60, 61] (by decide +kernel) (by decide +kernel)
set_option maxRecDepth 20000 in
theorem gX4_pick_X4_of : GoodIn wsX4_pick (wsV RX4 120 RX4 yX4_of wsX4_of) := goodIn_app (goodIn_of _ (by decide +kernel)) ggX4_pick_X4_of
set_option maxRecDepth 20000 in
theorem ggX4_pick_X4_one : GoodIn wsX4_pick wsX4_one := goodIn_r _ [24, 25, 26, 5, 27, 28, 29, 30, 31, 32, 33] (by decide +kernel) (by decide +kernel)
set_option maxRecDepth 20000 in
theorem gX4_pick_X4_one : GoodIn wsX4_pick (va_wsS RX4 211 yX4_one wsX4_one) := goodIn_app (goodIn_of _ (by decide +kernel)) ggX4_pick_X4_one
set_option maxRecDepth 20000 in
theorem ggX4_pick_X4_set : GoodIn wsX4_pick wsX4_set := goodIn_r _ [36, 28, 29, 5, 30, 31, 32, 33] (by decide +kernel) (by decide +kernel)
set_option maxRecDepth 20000 in
theorem gX4_pick_X4_set : GoodIn wsX4_pick (va_wsS RX4 77 yX4_set wsX4_set) := goodIn_app (goodIn_of _ (by decide +kernel)) ggX4_pick_X4_set
set_option maxRecDepth 20000 in
theorem ggX4_pick_X4_become : GoodIn wsX4_pick wsX4_become := goodIn_r _ [40, 18, 41, 42, 5, 43, 2, 44, 45, 46, 47, 48, 49, 50, 51, 52, 53, 54, 55, 56, 57, 58, 59, 60, 61] (by decide +kernel) (by decide +kernel)
set_option maxRecDepth 20000 in
theorem gX4_pick_X4_become : GoodIn wsX4_pick (wsV RX4 160 RX4 yX4_become wsX4_become) := goodIn_app (goodIn_of _ (by decide +kernel)) ggX4_pick_X4_become
theorem dX4_pick_0 : decode cX4_pick 0 = .ok (.aload_n 0, 1) := by decide +kernel
theorem dX4_pick_1 : decode cX4_pick 1 = .ok (.iconst 0, 1) := by decide +kernel
theorem dX4_pick_2 : decode cX4_pick 2 = .ok (.putfield 27, 3) := by decide +kernel
theorem dX4_pick_5 : decode cX4_pick 5 = .ok (.iload_n 1, 1) := by decide +kernel
theorem dX4_pick_6 : decode cX4_pick 6 = .ok (.invokestatic 143, 3) := by decide +kernel
theorem dX4_pick_9 : decode cX4_pick 9 = .ok (.ifCond .ne 9, 3) := by decide +kernel
theorem dX4_pick_12 : decode cX4_pick 12 = .ok (.aload_n 0, 1) := by decide +kernel
theorem dX4_pick_13 : decode cX4_pick 13 = .ok (.iconst 1, 1) := by decide +kernel
theorem dX4_pick_14 : decode cX4_pick 14 = .ok (.invokevirtual 147, 3) := by decide +kernel
theorem dX4_pick_17 : decode cX4_pick 17 = .ok (.ireturn, 1) := by decide +kernel
theorem dX4_pick_18 : decode cX4_pick 18 = .ok (.aload_n 0, 1) := by decide +kernel
theorem dX4_pick_19 : decode cX4_pick 19 = .ok (.iload_n 1, 1) := by decide +kernel
theorem dX4_pick_20 : decode cX4_pick 20 = .ok (.iload_n 3, 1) := by decide +kernel
theorem dX4_pick_21 : decode cX4_pick 21 = .ok (.invokevirtual 120, 3) := by decide +kernel
theorem dX4_pick_24 : decode cX4_pick 24 = .ok (.astore 4, 2) := by decide +kernel
theorem dX4_pick_26 : decode cX4_pick 26 = .ok (.aload 4, 2) := by decide +kernel
theorem dX4_pick_28 : decode cX4_pick 28 = .ok (.iload_n 2, 1) := by decide +kernel
theorem dX4_pick_29 : decode cX4_pick 29 = .ok (.invokestatic 211, 3) := by decide +kernel
theorem dX4_pick_32 : decode cX4_pick 32 = .ok (.istore 5, 2) := by decide +kernel
theorem dX4_pick_34 : decode cX4_pick 34 = .ok (.aload 4, 2) := by decide +kernel
theorem dX4_pick_36 : decode cX4_pick 36 = .ok (.arraylength, 1) := by decide +kernel
theorem dX4_pick_37 : decode cX4_pick 37 = .ok (.newarray .int, 2) := by decide +kernel
theorem dX4_pick_39 : decode cX4_pick 39 = .ok (.astore 6, 2) := by decide +kernel
theorem dX4_pick_41 : decode cX4_pick 41 = .ok (.iload 5, 2) := by decide +kernel
theorem dX4_pick_43 : decode cX4_pick 43 = .ok (.iconst (-1), 1) := by decide +kernel
theorem dX4_pick_44 : decode cX4_pick 44 = .ok (.if_icmp .eq 11, 3) := by decide +kernel
theorem dX4_pick_47 : decode cX4_pick 47 = .ok (.aload 6, 2) := by decide +kernel
theorem dX4_pick_49 : decode cX4_pick 49 = .ok (.iload 5, 2) := by decide +kernel
theorem dX4_pick_51 : decode cX4_pick 51 = .ok (.iconst 1, 1) := by decide +kernel
theorem dX4_pick_52 : decode cX4_pick 52 = .ok (.invokestatic 77, 3) := by decide +kernel
theorem dX4_pick_55 : decode cX4_pick 55 = .ok (.aload_n 0, 1) := by decide +kernel
theorem dX4_pick_56 : decode cX4_pick 56 = .ok (.iload_n 1, 1) := by decide +kernel
theorem dX4_pick_57 : decode cX4_pick 57 = .ok (.aload 6, 2) := by decide +kernel
theorem dX4_pick_59 : decode cX4_pick 59 = .ok (.invokevirtual 160, 3) := by decide +kernel
theorem dX4_pick_62 : decode cX4_pick 62 = .ok (.pop, 1) := by decide +kernel
theorem dX4_pick_63 : decode cX4_pick 63 = .ok (.iload 5, 2) := by decide +kernel
theorem dX4_pick_65 : decode cX4_pick 65 = .ok (.ireturn, 1) := by decide +kernel
set_option maxRecDepth 20000 in
theorem ggX4_join_X4_isCell : GoodIn wsX4_join wsX4_isCell := goodIn_r _ [5, 6, 7, 4, 8] (by decide +kernel) (by decide +kernel)
set_option maxRecDepth 20000 in
theorem gX4_join_X4_isCell : GoodIn wsX4_join (va_wsS RX4 143 yX4_isCell wsX4_isCell) := goodIn_app (goodIn_of _ (by decide +kernel)) ggX4_join_X4_isCell
set_option maxRecDepth 20000 in
theorem ggX4_join_X4_refuses : GoodIn wsX4_join wsX4_refuses := goodIn_r _ [12, 1, 47, 48, 49, 50, 51, 52, 53, 54, 55, 56] (by decide +kernel) (by decide +kernel)
set_option maxRecDepth 20000 in
theorem gX4_join_X4_refuses : GoodIn wsX4_join (wsV RX4 157 RX4 yX4_refuses wsX4_refuses) := goodIn_app (goodIn_of _ (by decide +kernel)) ggX4_join_X4_refuses
set_option maxRecDepth 20000 in
theorem ggX4_join_X4_is : GoodIn wsX4_join wsX4_is := goodIn_r _ [8] (by decide +kernel) (by decide +kernel)
set_option maxRecDepth 20000 in
theorem gX4_join_X4_is : GoodIn wsX4_join (va_wsS RX4 31 yX4_is wsX4_is) := goodIn_app (goodIn_of _ (by decide +kernel)) ggX4_join_X4_is
set_option maxRecDepth 20000 in
theorem ggX4_join_X4_of : GoodIn wsX4_join wsX4_of := goodIn_r _ [16, 17, 18, 19, 4, 20, 21, 47, 48, 49, 50, 51, 52, 53, 54, 55, 56] (by decide +kernel) (by decide +kernel)
set_option maxRecDepth 20000 in
theorem gX4_join_X4_of : GoodIn wsX4_join (wsV RX4 120 RX4 yX4_of wsX4_of) := goodIn_app (goodIn_of _ (by decide +kernel)) ggX4_join_X4_of
set_option maxRecDepth 20000 in
theorem ggX4_join_X4_compareSigned : GoodIn wsX4_join wsX4_compareSigned := goodIn_r _ [24, 25, 26, 4, 27, 28, 29, 30, 31] (by decide +kernel) (by decide +kernel)
set_option maxRecDepth 20000 in
theorem gX4_join_X4_compareSigned : GoodIn wsX4_join (va_wsS RX4 215 yX4_compareSigned wsX4_compareSigned) := goodIn_app (goodIn_of _ (by decide +kernel)) ggX4_join_X4_compareSigned
set_option maxRecDepth 20000 in
theorem ggX4_join_X4_sum : GoodIn wsX4_join wsX4_sum := goodIn_r _ [34, 21, 35] (by decide +kernel) (by decide +kernel)
set_option maxRecDepth 20000 in
theorem gX4_join_X4_sum : GoodIn wsX4_join (va_wsS RX4 70 yX4_sum wsX4_sum) := goodIn_app (goodIn_of _ (by decide +kernel)) ggX4_join_X4_sum
set_option maxRecDepth 20000 in
theorem ggX4_join_X4_become : GoodIn wsX4_join wsX4_become := goodIn_r _ [39, 17, 40, 41, 4, 42, 21, 43, 25, 26, 27, 28, 44, 45, 46, 47, 48, 49, 50, 51, 52, 53, 54, 55, 56] (by decide +kernel) (by decide +kernel)
set_option maxRecDepth 20000 in
theorem gX4_join_X4_become : GoodIn wsX4_join (wsV RX4 160 RX4 yX4_become wsX4_become) := goodIn_app (goodIn_of _ (by decide +kernel)) ggX4_join_X4_become
theorem dX4_join_0 : decode cX4_join 0 = .ok (.aload_n 0, 1) := by decide +kernel
theorem dX4_join_1 : decode cX4_join 1 = .ok (.iconst 0, 1) := by decide +kernel
theorem dX4_join_2 : decode cX4_join 2 = .ok (.putfield 27, 3) := by decide +kernel
theorem dX4_join_5 : decode cX4_join 5 = .ok (.iload_n 1, 1) := by decide +kernel
theorem dX4_join_6 : decode cX4_join 6 = .ok (.invokestatic 143, 3) := by decide +kernel
theorem dX4_join_9 : decode cX4_join 9 = .ok (.ifCond .eq 10, 3) := by decide +kernel
theorem dX4_join_12 : decode cX4_join 12 = .ok (.iload_n 2, 1) := by decide +kernel
theorem dX4_join_13 : decode cX4_join 13 = .ok (.invokestatic 143, 3) := by decide +kernel
theorem dX4_join_16 : decode cX4_join 16 = .ok (.ifCond .ne 9, 3) := by decide +kernel
theorem dX4_join_19 : decode cX4_join 19 = .ok (.aload_n 0, 1) := by decide +kernel
theorem dX4_join_20 : decode cX4_join 20 = .ok (.iconst 1, 1) := by decide +kernel
theorem dX4_join_21 : decode cX4_join 21 = .ok (.invokevirtual 157, 3) := by decide +kernel
theorem dX4_join_24 : decode cX4_join 24 = .ok (.ireturn, 1) := by decide +kernel
theorem dX4_join_25 : decode cX4_join 25 = .ok (.iload_n 3, 1) := by decide +kernel
theorem dX4_join_26 : decode cX4_join 26 = .ok (.iconst 0, 1) := by decide +kernel
theorem dX4_join_27 : decode cX4_join 27 = .ok (.iconst 2, 1) := by decide +kernel
theorem dX4_join_28 : decode cX4_join 28 = .ok (.invokestatic 31, 3) := by decide +kernel
theorem dX4_join_31 : decode cX4_join 31 = .ok (.ifCond .ne 9, 3) := by decide +kernel
theorem dX4_join_34 : decode cX4_join 34 = .ok (.aload_n 0, 1) := by decide +kernel
theorem dX4_join_35 : decode cX4_join 35 = .ok (.iconst 2, 1) := by decide +kernel
theorem dX4_join_36 : decode cX4_join 36 = .ok (.invokevirtual 157, 3) := by decide +kernel
theorem dX4_join_39 : decode cX4_join 39 = .ok (.ireturn, 1) := by decide +kernel
theorem dX4_join_40 : decode cX4_join 40 = .ok (.aload_n 0, 1) := by decide +kernel
theorem dX4_join_41 : decode cX4_join 41 = .ok (.iload_n 1, 1) := by decide +kernel
theorem dX4_join_42 : decode cX4_join 42 = .ok (.iload 4, 2) := by decide +kernel
theorem dX4_join_44 : decode cX4_join 44 = .ok (.invokevirtual 120, 3) := by decide +kernel
theorem dX4_join_47 : decode cX4_join 47 = .ok (.astore 5, 2) := by decide +kernel
theorem dX4_join_49 : decode cX4_join 49 = .ok (.aload_n 0, 1) := by decide +kernel
theorem dX4_join_50 : decode cX4_join 50 = .ok (.iload_n 2, 1) := by decide +kernel
theorem dX4_join_51 : decode cX4_join 51 = .ok (.iload 4, 2) := by decide +kernel
theorem dX4_join_53 : decode cX4_join 53 = .ok (.invokevirtual 120, 3) := by decide +kernel
theorem dX4_join_56 : decode cX4_join 56 = .ok (.astore 6, 2) := by decide +kernel
theorem dX4_join_58 : decode cX4_join 58 = .ok (.aload 5, 2) := by decide +kernel
theorem dX4_join_60 : decode cX4_join 60 = .ok (.aload 6, 2) := by decide +kernel
theorem dX4_join_62 : decode cX4_join 62 = .ok (.invokestatic 215, 3) := by decide +kernel
theorem dX4_join_65 : decode cX4_join 65 = .ok (.istore 7, 2) := by decide +kernel
theorem dX4_join_67 : decode cX4_join 67 = .ok (.aload_n 0, 1) := by decide +kernel
theorem dX4_join_68 : decode cX4_join 68 = .ok (.iload_n 1, 1) := by decide +kernel
theorem dX4_join_69 : decode cX4_join 69 = .ok (.iload_n 3, 1) := by decide +kernel
theorem dX4_join_70 : decode cX4_join 70 = .ok (.ifCond .ne 13, 3) := by decide +kernel
theorem dX4_join_73 : decode cX4_join 73 = .ok (.aload 5, 2) := by decide +kernel
theorem dX4_join_75 : decode cX4_join 75 = .ok (.aload 6, 2) := by decide +kernel
theorem dX4_join_77 : decode cX4_join 77 = .ok (.invokestatic 70, 3) := by decide +kernel
theorem dX4_join_80 : decode cX4_join 80 = .ok (.goto 28, 3) := by decide +kernel
theorem dX4_join_83 : decode cX4_join 83 = .ok (.iload_n 3, 1) := by decide +kernel
theorem dX4_join_84 : decode cX4_join 84 = .ok (.iconst 1, 1) := by decide +kernel
theorem dX4_join_85 : decode cX4_join 85 = .ok (.if_icmp .ne 11, 3) := by decide +kernel
theorem dX4_join_88 : decode cX4_join 88 = .ok (.iload 7, 2) := by decide +kernel
theorem dX4_join_90 : decode cX4_join 90 = .ok (.ifCond .lt 16, 3) := by decide +kernel
theorem dX4_join_93 : decode cX4_join 93 = .ok (.goto 8, 3) := by decide +kernel
theorem dX4_join_96 : decode cX4_join 96 = .ok (.iload 7, 2) := by decide +kernel
theorem dX4_join_98 : decode cX4_join 98 = .ok (.ifCond .gt 8, 3) := by decide +kernel
theorem dX4_join_101 : decode cX4_join 101 = .ok (.aload 5, 2) := by decide +kernel
theorem dX4_join_103 : decode cX4_join 103 = .ok (.goto 5, 3) := by decide +kernel
theorem dX4_join_106 : decode cX4_join 106 = .ok (.aload 6, 2) := by decide +kernel
theorem dX4_join_108 : decode cX4_join 108 = .ok (.invokevirtual 160, 3) := by decide +kernel
theorem dX4_join_111 : decode cX4_join 111 = .ok (.ireturn, 1) := by decide +kernel
theorem dX4_knock_0 : decode cX4_knock 0 = .ok (.aload_n 0, 1) := by decide +kernel
theorem dX4_knock_1 : decode cX4_knock 1 = .ok (.iconst 0, 1) := by decide +kernel
theorem dX4_knock_2 : decode cX4_knock 2 = .ok (.putfield 27, 3) := by decide +kernel
theorem dX4_knock_5 : decode cX4_knock 5 = .ok (.aload_n 0, 1) := by decide +kernel
theorem dX4_knock_6 : decode cX4_knock 6 = .ok (.dup, 1) := by decide +kernel
theorem dX4_knock_7 : decode cX4_knock 7 = .ok (.getfield 218, 3) := by decide +kernel
theorem dX4_knock_10 : decode cX4_knock 10 = .ok (.iconst 1, 1) := by decide +kernel
theorem dX4_knock_11 : decode cX4_knock 11 = .ok (.iadd, 1) := by decide +kernel
theorem dX4_knock_12 : decode cX4_knock 12 = .ok (.putfield 218, 3) := by decide +kernel
theorem dX4_knock_15 : decode cX4_knock 15 = .ok (.aload_n 0, 1) := by decide +kernel
theorem dX4_knock_16 : decode cX4_knock 16 = .ok (.getfield 218, 3) := by decide +kernel
theorem dX4_knock_19 : decode cX4_knock 19 = .ok (.ireturn, 1) := by decide +kernel
set_option maxRecDepth 20000 in
theorem ggX4_high_X4_isCell : GoodIn wsX4_high wsX4_isCell := goodIn_r _ [6, 7, 8, 5, 9] (by decide +kernel) (by decide +kernel)
set_option maxRecDepth 20000 in
theorem gX4_high_X4_isCell : GoodIn wsX4_high (va_wsS RX4 143 yX4_isCell wsX4_isCell) := goodIn_app (goodIn_of _ (by decide +kernel)) ggX4_high_X4_isCell
set_option maxRecDepth 20000 in
theorem ggX4_high_X4_half : GoodIn wsX4_high wsX4_half := goodIn_r _ [12, 13, 14] (by decide +kernel) (by decide +kernel)
set_option maxRecDepth 20000 in
theorem gX4_high_X4_half : GoodIn wsX4_high (va_wsS RX4 221 yX4_half wsX4_half) := goodIn_app (goodIn_of _ (by decide +kernel)) ggX4_high_X4_half
set_option maxRecDepth 20000 in
theorem ggX4_high_X4_refuse : GoodIn wsX4_high wsX4_refuse := goodIn_r _ [18, 1, 19, 20, 21, 22, 23, 24, 25, 26, 27, 28] (by decide +kernel) (by decide +kernel)
set_option maxRecDepth 20000 in
theorem gX4_high_X4_refuse : GoodIn wsX4_high (wsV RX4 147 RX4 yX4_refuse wsX4_refuse) := goodIn_app (goodIn_of _ (by decide +kernel)) ggX4_high_X4_refuse
theorem dX4_high_0 : decode cX4_high 0 = .ok (.aload_n 0, 1) := by decide +kernel
theorem dX4_high_1 : decode cX4_high 1 = .ok (.iconst 0, 1) := by decide +kernel
theorem dX4_high_2 : decode cX4_high 2 = .ok (.putfield 27, 3) := by decide +kernel
theorem dX4_high_5 : decode cX4_high 5 = .ok (.iload_n 1, 1) := by decide +kernel
theorem dX4_high_6 : decode cX4_high 6 = .ok (.invokestatic 143, 3) := by decide +kernel
theorem dX4_high_9 : decode cX4_high 9 = .ok (.ifCond .eq 16, 3) := by decide +kernel
theorem dX4_high_12 : decode cX4_high 12 = .ok (.aload_n 0, 1) := by decide +kernel
theorem dX4_high_13 : decode cX4_high 13 = .ok (.getfield 11, 3) := by decide +kernel
theorem dX4_high_16 : decode cX4_high 16 = .ok (.iload_n 1, 1) := by decide +kernel
theorem dX4_high_17 : decode cX4_high 17 = .ok (.aaload, 1) := by decide +kernel
theorem dX4_high_18 : decode cX4_high 18 = .ok (.iconst 2, 1) := by decide +kernel
theorem dX4_high_19 : decode cX4_high 19 = .ok (.invokestatic 221, 3) := by decide +kernel
theorem dX4_high_22 : decode cX4_high 22 = .ok (.goto 8, 3) := by decide +kernel
theorem dX4_high_25 : decode cX4_high 25 = .ok (.aload_n 0, 1) := by decide +kernel
theorem dX4_high_26 : decode cX4_high 26 = .ok (.iconst 1, 1) := by decide +kernel
theorem dX4_high_27 : decode cX4_high 27 = .ok (.invokevirtual 147, 3) := by decide +kernel
theorem dX4_high_30 : decode cX4_high 30 = .ok (.ireturn, 1) := by decide +kernel
set_option maxRecDepth 20000 in
theorem ggX4_low_X4_isCell : GoodIn wsX4_low wsX4_isCell := goodIn_r _ [6, 7, 8, 5, 9] (by decide +kernel) (by decide +kernel)
set_option maxRecDepth 20000 in
theorem gX4_low_X4_isCell : GoodIn wsX4_low (va_wsS RX4 143 yX4_isCell wsX4_isCell) := goodIn_app (goodIn_of _ (by decide +kernel)) ggX4_low_X4_isCell
set_option maxRecDepth 20000 in
theorem ggX4_low_X4_half : GoodIn wsX4_low wsX4_half := goodIn_r _ [12, 13, 14] (by decide +kernel) (by decide +kernel)
set_option maxRecDepth 20000 in
theorem gX4_low_X4_half : GoodIn wsX4_low (va_wsS RX4 221 yX4_half wsX4_half) := goodIn_app (goodIn_of _ (by decide +kernel)) ggX4_low_X4_half
set_option maxRecDepth 20000 in
theorem ggX4_low_X4_refuse : GoodIn wsX4_low wsX4_refuse := goodIn_r _ [18, 1, 19, 20, 21, 22, 23, 24, 25, 26, 27, 28] (by decide +kernel) (by decide +kernel)
set_option maxRecDepth 20000 in
theorem gX4_low_X4_refuse : GoodIn wsX4_low (wsV RX4 147 RX4 yX4_refuse wsX4_refuse) := goodIn_app (goodIn_of _ (by decide +kernel)) ggX4_low_X4_refuse
theorem dX4_low_0 : decode cX4_low 0 = .ok (.aload_n 0, 1) := by decide +kernel
theorem dX4_low_1 : decode cX4_low 1 = .ok (.iconst 0, 1) := by decide +kernel
theorem dX4_low_2 : decode cX4_low 2 = .ok (.putfield 27, 3) := by decide +kernel
theorem dX4_low_5 : decode cX4_low 5 = .ok (.iload_n 1, 1) := by decide +kernel
theorem dX4_low_6 : decode cX4_low 6 = .ok (.invokestatic 143, 3) := by decide +kernel
theorem dX4_low_9 : decode cX4_low 9 = .ok (.ifCond .eq 16, 3) := by decide +kernel
theorem dX4_low_12 : decode cX4_low 12 = .ok (.aload_n 0, 1) := by decide +kernel
theorem dX4_low_13 : decode cX4_low 13 = .ok (.getfield 11, 3) := by decide +kernel
theorem dX4_low_16 : decode cX4_low 16 = .ok (.iload_n 1, 1) := by decide +kernel
theorem dX4_low_17 : decode cX4_low 17 = .ok (.aaload, 1) := by decide +kernel
theorem dX4_low_18 : decode cX4_low 18 = .ok (.iconst 0, 1) := by decide +kernel
theorem dX4_low_19 : decode cX4_low 19 = .ok (.invokestatic 221, 3) := by decide +kernel
theorem dX4_low_22 : decode cX4_low 22 = .ok (.goto 8, 3) := by decide +kernel
theorem dX4_low_25 : decode cX4_low 25 = .ok (.aload_n 0, 1) := by decide +kernel
theorem dX4_low_26 : decode cX4_low 26 = .ok (.iconst 1, 1) := by decide +kernel
theorem dX4_low_27 : decode cX4_low 27 = .ok (.invokevirtual 147, 3) := by decide +kernel
theorem dX4_low_30 : decode cX4_low 30 = .ok (.ireturn, 1) := by decide +kernel
set_option maxRecDepth 20000 in
theorem ggX4_countNow_X4_of : GoodIn wsX4_countNow wsX4_of := goodIn_r _ [5, 6, 7, 8, 4, 9, 10, 33, 34, 35, 36, 37, 38, 39, 40, 41, 42] (by decide +kernel) (by decide +kernel)
set_option maxRecDepth 20000 in
theorem gX4_countNow_X4_of : GoodIn wsX4_countNow (wsV RX4 120 RX4 yX4_of wsX4_of) := goodIn_app (goodIn_of _ (by decide +kernel)) ggX4_countNow_X4_of
set_option maxRecDepth 20000 in
theorem ggX4_countNow_X4_count : GoodIn wsX4_countNow wsX4_count := goodIn_r _ [13, 14, 15, 4, 16, 17, 18, 19, 20, 21, 22] (by decide +kernel) (by decide +kernel)
set_option maxRecDepth 20000 in
theorem gX4_countNow_X4_count : GoodIn wsX4_countNow (va_wsS RX4 154 yX4_count wsX4_count) := goodIn_app (goodIn_of _ (by decide +kernel)) ggX4_countNow_X4_count
set_option maxRecDepth 20000 in
theorem ggX4_countNow_X4_bits : GoodIn wsX4_countNow wsX4_bits := goodIn_r _ [16] (by decide +kernel) (by decide +kernel)
set_option maxRecDepth 20000 in
theorem gX4_countNow_X4_bits : GoodIn wsX4_countNow (va_wsS RX4 66 yX4_bits wsX4_bits) := goodIn_app (goodIn_of _ (by decide +kernel)) ggX4_countNow_X4_bits
set_option maxRecDepth 20000 in
theorem ggX4_countNow_X4_one : GoodIn wsX4_countNow wsX4_one := goodIn_r _ [25, 14, 15, 4, 16, 17, 18, 19, 20, 21, 22] (by decide +kernel) (by decide +kernel)
set_option maxRecDepth 20000 in
theorem gX4_countNow_X4_one : GoodIn wsX4_countNow (va_wsS RX4 211 yX4_one wsX4_one) := goodIn_app (goodIn_of _ (by decide +kernel)) ggX4_countNow_X4_one
set_option maxRecDepth 20000 in
theorem ggX4_countNow_X4_isZero : GoodIn wsX4_countNow wsX4_isZero := goodIn_r _ [28] (by decide +kernel) (by decide +kernel)
set_option maxRecDepth 20000 in
theorem gX4_countNow_X4_isZero : GoodIn wsX4_countNow (va_wsS RX4 93 yX4_isZero wsX4_isZero) := goodIn_app (goodIn_of _ (by decide +kernel)) ggX4_countNow_X4_isZero
set_option maxRecDepth 20000 in
theorem ggX4_countNow_X4_isNegative : GoodIn wsX4_countNow wsX4_isNegative := goodIn_r _ [31, 32] (by decide +kernel) (by decide +kernel)
set_option maxRecDepth 20000 in
theorem gX4_countNow_X4_isNegative : GoodIn wsX4_countNow (va_wsS RX4 44 yX4_isNegative wsX4_isNegative) := goodIn_app (goodIn_of _ (by decide +kernel)) ggX4_countNow_X4_isNegative
theorem dX4_countNow_0 : decode cX4_countNow 0 = .ok (.aload_n 0, 1) := by decide +kernel
theorem dX4_countNow_1 : decode cX4_countNow 1 = .ok (.iload_n 1, 1) := by decide +kernel
theorem dX4_countNow_2 : decode cX4_countNow 2 = .ok (.iload_n 3, 1) := by decide +kernel
theorem dX4_countNow_3 : decode cX4_countNow 3 = .ok (.invokevirtual 120, 3) := by decide +kernel
theorem dX4_countNow_6 : decode cX4_countNow 6 = .ok (.astore 4, 2) := by decide +kernel
theorem dX4_countNow_8 : decode cX4_countNow 8 = .ok (.iload_n 2, 1) := by decide +kernel
theorem dX4_countNow_9 : decode cX4_countNow 9 = .ok (.tableswitch 71 0 2 #[27, 33, 48], 27) := by decide +kernel
theorem dX4_countNow_36 : decode cX4_countNow 36 = .ok (.aload 4, 2) := by decide +kernel
theorem dX4_countNow_38 : decode cX4_countNow 38 = .ok (.invokestatic 154, 3) := by decide +kernel
theorem dX4_countNow_41 : decode cX4_countNow 41 = .ok (.ireturn, 1) := by decide +kernel
theorem dX4_countNow_42 : decode cX4_countNow 42 = .ok (.aload 4, 2) := by decide +kernel
theorem dX4_countNow_44 : decode cX4_countNow 44 = .ok (.invokestatic 66, 3) := by decide +kernel
theorem dX4_countNow_47 : decode cX4_countNow 47 = .ok (.iconst 1, 1) := by decide +kernel
theorem dX4_countNow_48 : decode cX4_countNow 48 = .ok (.isub, 1) := by decide +kernel
theorem dX4_countNow_49 : decode cX4_countNow 49 = .ok (.aload 4, 2) := by decide +kernel
theorem dX4_countNow_51 : decode cX4_countNow 51 = .ok (.iconst 1, 1) := by decide +kernel
theorem dX4_countNow_52 : decode cX4_countNow 52 = .ok (.invokestatic 211, 3) := by decide +kernel
theorem dX4_countNow_55 : decode cX4_countNow 55 = .ok (.isub, 1) := by decide +kernel
theorem dX4_countNow_56 : decode cX4_countNow 56 = .ok (.ireturn, 1) := by decide +kernel
theorem dX4_countNow_57 : decode cX4_countNow 57 = .ok (.aload 4, 2) := by decide +kernel
theorem dX4_countNow_59 : decode cX4_countNow 59 = .ok (.invokestatic 93, 3) := by decide +kernel
theorem dX4_countNow_62 : decode cX4_countNow 62 = .ok (.ifCond .eq 11, 3) := by decide +kernel
theorem dX4_countNow_65 : decode cX4_countNow 65 = .ok (.aload 4, 2) := by decide +kernel
theorem dX4_countNow_67 : decode cX4_countNow 67 = .ok (.invokestatic 66, 3) := by decide +kernel
theorem dX4_countNow_70 : decode cX4_countNow 70 = .ok (.goto 9, 3) := by decide +kernel
theorem dX4_countNow_73 : decode cX4_countNow 73 = .ok (.aload 4, 2) := by decide +kernel
theorem dX4_countNow_75 : decode cX4_countNow 75 = .ok (.iconst 0, 1) := by decide +kernel
theorem dX4_countNow_76 : decode cX4_countNow 76 = .ok (.invokestatic 211, 3) := by decide +kernel
theorem dX4_countNow_79 : decode cX4_countNow 79 = .ok (.ireturn, 1) := by decide +kernel
theorem dX4_countNow_80 : decode cX4_countNow 80 = .ok (.aload 4, 2) := by decide +kernel
theorem dX4_countNow_82 : decode cX4_countNow 82 = .ok (.invokestatic 93, 3) := by decide +kernel
theorem dX4_countNow_85 : decode cX4_countNow 85 = .ok (.ifCond .eq 7, 3) := by decide +kernel
theorem dX4_countNow_88 : decode cX4_countNow 88 = .ok (.iconst 0, 1) := by decide +kernel
theorem dX4_countNow_89 : decode cX4_countNow 89 = .ok (.goto 16, 3) := by decide +kernel
theorem dX4_countNow_92 : decode cX4_countNow 92 = .ok (.aload 4, 2) := by decide +kernel
theorem dX4_countNow_94 : decode cX4_countNow 94 = .ok (.invokestatic 44, 3) := by decide +kernel
theorem dX4_countNow_97 : decode cX4_countNow 97 = .ok (.ifCond .eq 7, 3) := by decide +kernel
theorem dX4_countNow_100 : decode cX4_countNow 100 = .ok (.iconst (-1), 1) := by decide +kernel
theorem dX4_countNow_101 : decode cX4_countNow 101 = .ok (.goto 4, 3) := by decide +kernel
theorem dX4_countNow_104 : decode cX4_countNow 104 = .ok (.iconst 1, 1) := by decide +kernel
theorem dX4_countNow_105 : decode cX4_countNow 105 = .ok (.ireturn, 1) := by decide +kernel
set_option maxRecDepth 20000 in
theorem ggX4_count__X4_isCell : GoodIn wsX4_count_ wsX4_isCell := goodIn_r _ [5, 6, 7, 4, 8] (by decide +kernel) (by decide +kernel)
set_option maxRecDepth 20000 in
theorem gX4_count__X4_isCell : GoodIn wsX4_count_ (va_wsS RX4 143 yX4_isCell wsX4_isCell) := goodIn_app (goodIn_of _ (by decide +kernel)) ggX4_count__X4_isCell
set_option maxRecDepth 20000 in
theorem ggX4_count__X4_refuse : GoodIn wsX4_count_ wsX4_refuse := goodIn_r _ [12, 1, 48, 49, 50, 51, 52, 53, 54, 55, 56, 57] (by decide +kernel) (by decide +kernel)
set_option maxRecDepth 20000 in
theorem gX4_count__X4_refuse : GoodIn wsX4_count_ (wsV RX4 147 RX4 yX4_refuse wsX4_refuse) := goodIn_app (goodIn_of _ (by decide +kernel)) ggX4_count__X4_refuse
set_option maxRecDepth 20000 in
theorem ggX4_count__X4_is : GoodIn wsX4_count_ wsX4_is := goodIn_r _ [8] (by decide +kernel) (by decide +kernel)
set_option maxRecDepth 20000 in
theorem gX4_count__X4_is : GoodIn wsX4_count_ (va_wsS RX4 31 yX4_is wsX4_is) := goodIn_app (goodIn_of _ (by decide +kernel)) ggX4_count__X4_is
set_option maxRecDepth 20000 in
theorem ggX4_count__X4_countNow : GoodIn wsX4_count_ wsX4_countNow := goodIn_r _ [16, 17, 18, 19, 4, 20, 21, 22, 23, 24, 25, 26, 27, 28, 29, 30, 31, 32, 33, 34, 35, 36, 37, 38, 39, 40, 41, 42, 43, 44, 45, 46, 47, 48, 49, 50, 51, 52, 53, 54, 55, 56, 57] (by decide +kernel) (by decide +kernel)
set_option maxRecDepth 20000 in
theorem gX4_count__X4_countNow : GoodIn wsX4_count_ (wsV RX4 224 RX4 yX4_countNow wsX4_countNow) := goodIn_app (goodIn_of _ (by decide +kernel)) ggX4_count__X4_countNow
theorem dX4_count__0 : decode cX4_count_ 0 = .ok (.aload_n 0, 1) := by decide +kernel
theorem dX4_count__1 : decode cX4_count_ 1 = .ok (.iconst 0, 1) := by decide +kernel
theorem dX4_count__2 : decode cX4_count_ 2 = .ok (.putfield 27, 3) := by decide +kernel
theorem dX4_count__5 : decode cX4_count_ 5 = .ok (.iload_n 1, 1) := by decide +kernel
theorem dX4_count__6 : decode cX4_count_ 6 = .ok (.invokestatic 143, 3) := by decide +kernel
theorem dX4_count__9 : decode cX4_count_ 9 = .ok (.ifCond .ne 9, 3) := by decide +kernel
theorem dX4_count__12 : decode cX4_count_ 12 = .ok (.aload_n 0, 1) := by decide +kernel
theorem dX4_count__13 : decode cX4_count_ 13 = .ok (.iconst 1, 1) := by decide +kernel
theorem dX4_count__14 : decode cX4_count_ 14 = .ok (.invokevirtual 147, 3) := by decide +kernel
theorem dX4_count__17 : decode cX4_count_ 17 = .ok (.ireturn, 1) := by decide +kernel
theorem dX4_count__18 : decode cX4_count_ 18 = .ok (.iload_n 2, 1) := by decide +kernel
theorem dX4_count__19 : decode cX4_count_ 19 = .ok (.iconst 0, 1) := by decide +kernel
theorem dX4_count__20 : decode cX4_count_ 20 = .ok (.iconst 3, 1) := by decide +kernel
theorem dX4_count__21 : decode cX4_count_ 21 = .ok (.invokestatic 31, 3) := by decide +kernel
theorem dX4_count__24 : decode cX4_count_ 24 = .ok (.ifCond .eq 13, 3) := by decide +kernel
theorem dX4_count__27 : decode cX4_count_ 27 = .ok (.aload_n 0, 1) := by decide +kernel
theorem dX4_count__28 : decode cX4_count_ 28 = .ok (.iload_n 1, 1) := by decide +kernel
theorem dX4_count__29 : decode cX4_count_ 29 = .ok (.iload_n 2, 1) := by decide +kernel
theorem dX4_count__30 : decode cX4_count_ 30 = .ok (.iload_n 3, 1) := by decide +kernel
theorem dX4_count__31 : decode cX4_count_ 31 = .ok (.invokevirtual 224, 3) := by decide +kernel
theorem dX4_count__34 : decode cX4_count_ 34 = .ok (.goto 8, 3) := by decide +kernel
theorem dX4_count__37 : decode cX4_count_ 37 = .ok (.aload_n 0, 1) := by decide +kernel
theorem dX4_count__38 : decode cX4_count_ 38 = .ok (.iconst 2, 1) := by decide +kernel
theorem dX4_count__39 : decode cX4_count_ 39 = .ok (.invokevirtual 147, 3) := by decide +kernel
theorem dX4_count__42 : decode cX4_count_ 42 = .ok (.ireturn, 1) := by decide +kernel
set_option maxRecDepth 20000 in
theorem ggX4_compare__X4_isCell : GoodIn wsX4_compare_ wsX4_isCell := goodIn_r _ [5, 6, 7, 4, 8] (by decide +kernel) (by decide +kernel)
set_option maxRecDepth 20000 in
theorem gX4_compare__X4_isCell : GoodIn wsX4_compare_ (va_wsS RX4 143 yX4_isCell wsX4_isCell) := goodIn_app (goodIn_of _ (by decide +kernel)) ggX4_compare__X4_isCell
set_option maxRecDepth 20000 in
theorem ggX4_compare__X4_refuse : GoodIn wsX4_compare_ wsX4_refuse := goodIn_r _ [12, 1, 32, 33, 34, 35, 36, 37, 38, 39, 40, 41] (by decide +kernel) (by decide +kernel)
set_option maxRecDepth 20000 in
theorem gX4_compare__X4_refuse : GoodIn wsX4_compare_ (wsV RX4 147 RX4 yX4_refuse wsX4_refuse) := goodIn_app (goodIn_of _ (by decide +kernel)) ggX4_compare__X4_refuse
set_option maxRecDepth 20000 in
theorem ggX4_compare__X4_of : GoodIn wsX4_compare_ wsX4_of := goodIn_r _ [16, 17, 18, 19, 4, 20, 21, 32, 33, 34, 35, 36, 37, 38, 39, 40, 41] (by decide +kernel) (by decide +kernel)
set_option maxRecDepth 20000 in
theorem gX4_compare__X4_of : GoodIn wsX4_compare_ (wsV RX4 120 RX4 yX4_of wsX4_of) := goodIn_app (goodIn_of _ (by decide +kernel)) ggX4_compare__X4_of
set_option maxRecDepth 20000 in
theorem ggX4_compare__X4_compare : GoodIn wsX4_compare_ wsX4_compare := goodIn_r _ [24] (by decide +kernel) (by decide +kernel)
set_option maxRecDepth 20000 in
theorem gX4_compare__X4_compare : GoodIn wsX4_compare_ (va_wsS RX4 48 yX4_compare wsX4_compare) := goodIn_app (goodIn_of _ (by decide +kernel)) ggX4_compare__X4_compare
set_option maxRecDepth 20000 in
theorem ggX4_compare__X4_compareSigned : GoodIn wsX4_compare_ wsX4_compareSigned := goodIn_r _ [27, 28, 29, 4, 30, 31, 22, 23, 24] (by decide +kernel) (by decide +kernel)
set_option maxRecDepth 20000 in
theorem gX4_compare__X4_compareSigned : GoodIn wsX4_compare_ (va_wsS RX4 215 yX4_compareSigned wsX4_compareSigned) := goodIn_app (goodIn_of _ (by decide +kernel)) ggX4_compare__X4_compareSigned
theorem dX4_compare__0 : decode cX4_compare_ 0 = .ok (.aload_n 0, 1) := by decide +kernel
theorem dX4_compare__1 : decode cX4_compare_ 1 = .ok (.iconst 0, 1) := by decide +kernel
theorem dX4_compare__2 : decode cX4_compare_ 2 = .ok (.putfield 27, 3) := by decide +kernel
theorem dX4_compare__5 : decode cX4_compare_ 5 = .ok (.iload_n 1, 1) := by decide +kernel
theorem dX4_compare__6 : decode cX4_compare_ 6 = .ok (.invokestatic 143, 3) := by decide +kernel
theorem dX4_compare__9 : decode cX4_compare_ 9 = .ok (.ifCond .eq 10, 3) := by decide +kernel
theorem dX4_compare__12 : decode cX4_compare_ 12 = .ok (.iload_n 2, 1) := by decide +kernel
theorem dX4_compare__13 : decode cX4_compare_ 13 = .ok (.invokestatic 143, 3) := by decide +kernel
theorem dX4_compare__16 : decode cX4_compare_ 16 = .ok (.ifCond .ne 9, 3) := by decide +kernel
theorem dX4_compare__19 : decode cX4_compare_ 19 = .ok (.aload_n 0, 1) := by decide +kernel
theorem dX4_compare__20 : decode cX4_compare_ 20 = .ok (.iconst 1, 1) := by decide +kernel
theorem dX4_compare__21 : decode cX4_compare_ 21 = .ok (.invokevirtual 147, 3) := by decide +kernel
theorem dX4_compare__24 : decode cX4_compare_ 24 = .ok (.ireturn, 1) := by decide +kernel
theorem dX4_compare__25 : decode cX4_compare_ 25 = .ok (.iload_n 3, 1) := by decide +kernel
theorem dX4_compare__26 : decode cX4_compare_ 26 = .ok (.ifCond .eq 23, 3) := by decide +kernel
theorem dX4_compare__29 : decode cX4_compare_ 29 = .ok (.aload_n 0, 1) := by decide +kernel
theorem dX4_compare__30 : decode cX4_compare_ 30 = .ok (.iload_n 1, 1) := by decide +kernel
theorem dX4_compare__31 : decode cX4_compare_ 31 = .ok (.iload 4, 2) := by decide +kernel
theorem dX4_compare__33 : decode cX4_compare_ 33 = .ok (.invokevirtual 120, 3) := by decide +kernel
theorem dX4_compare__36 : decode cX4_compare_ 36 = .ok (.aload_n 0, 1) := by decide +kernel
theorem dX4_compare__37 : decode cX4_compare_ 37 = .ok (.iload_n 2, 1) := by decide +kernel
theorem dX4_compare__38 : decode cX4_compare_ 38 = .ok (.iload 4, 2) := by decide +kernel
theorem dX4_compare__40 : decode cX4_compare_ 40 = .ok (.invokevirtual 120, 3) := by decide +kernel
theorem dX4_compare__43 : decode cX4_compare_ 43 = .ok (.invokestatic 48, 3) := by decide +kernel
theorem dX4_compare__46 : decode cX4_compare_ 46 = .ok (.goto 20, 3) := by decide +kernel
theorem dX4_compare__49 : decode cX4_compare_ 49 = .ok (.aload_n 0, 1) := by decide +kernel
theorem dX4_compare__50 : decode cX4_compare_ 50 = .ok (.iload_n 1, 1) := by decide +kernel
theorem dX4_compare__51 : decode cX4_compare_ 51 = .ok (.iload 4, 2) := by decide +kernel
theorem dX4_compare__53 : decode cX4_compare_ 53 = .ok (.invokevirtual 120, 3) := by decide +kernel
theorem dX4_compare__56 : decode cX4_compare_ 56 = .ok (.aload_n 0, 1) := by decide +kernel
theorem dX4_compare__57 : decode cX4_compare_ 57 = .ok (.iload_n 2, 1) := by decide +kernel
theorem dX4_compare__58 : decode cX4_compare_ 58 = .ok (.iload 4, 2) := by decide +kernel
theorem dX4_compare__60 : decode cX4_compare_ 60 = .ok (.invokevirtual 120, 3) := by decide +kernel
theorem dX4_compare__63 : decode cX4_compare_ 63 = .ok (.invokestatic 215, 3) := by decide +kernel
theorem dX4_compare__66 : decode cX4_compare_ 66 = .ok (.ireturn, 1) := by decide +kernel
theorem dX4_text_0 : decode cX4_text 0 = .ok (.aload_n 0, 1) := by decide +kernel
theorem dX4_text_1 : decode cX4_text 1 = .ok (.iconst 0, 1) := by decide +kernel
theorem dX4_text_2 : decode cX4_text 2 = .ok (.putfield 27, 3) := by decide +kernel
theorem dX4_text_5 : decode cX4_text 5 = .ok (.aload_n 0, 1) := by decide +kernel
theorem dX4_text_6 : decode cX4_text 6 = .ok (.getfield 16, 3) := by decide +kernel
theorem dX4_text_9 : decode cX4_text 9 = .ok (.areturn, 1) := by decide +kernel
set_option maxRecDepth 20000 in
theorem ggX4_digitOf_X4_worth : GoodIn wsX4_digitOf wsX4_worth := goodIn_r _ [4] (by decide +kernel) (by decide +kernel)
set_option maxRecDepth 20000 in
theorem gX4_digitOf_X4_worth : GoodIn wsX4_digitOf (va_wsS RX4 135 yX4_worth wsX4_worth) := goodIn_app (goodIn_of _ (by decide +kernel)) ggX4_digitOf_X4_worth
theorem dX4_digitOf_0 : decode cX4_digitOf 0 = .ok (.iload_n 0, 1) := by decide +kernel
theorem dX4_digitOf_1 : decode cX4_digitOf 1 = .ok (.invokestatic 135, 3) := by decide +kernel
theorem dX4_digitOf_4 : decode cX4_digitOf 4 = .ok (.iload_n 1, 1) := by decide +kernel
theorem dX4_digitOf_5 : decode cX4_digitOf 5 = .ok (.if_icmp .ge 10, 3) := by decide +kernel
theorem dX4_digitOf_8 : decode cX4_digitOf 8 = .ok (.iload_n 0, 1) := by decide +kernel
theorem dX4_digitOf_9 : decode cX4_digitOf 9 = .ok (.invokestatic 135, 3) := by decide +kernel
theorem dX4_digitOf_12 : decode cX4_digitOf 12 = .ok (.goto 4, 3) := by decide +kernel
theorem dX4_digitOf_15 : decode cX4_digitOf 15 = .ok (.iconst (-1), 1) := by decide +kernel
theorem dX4_digitOf_16 : decode cX4_digitOf 16 = .ok (.ireturn, 1) := by decide +kernel
set_option maxRecDepth 20000 in
theorem ggX4_digit_J0_length_8abf5 : GoodIn wsX4_digit wsJ0_length_8abf5 := goodIn_r _ [7, 8, 9, 10, 11, 6, 12, 13, 14, 76, 77, 78, 79] (by decide +kernel) (by decide +kernel)
set_option maxRecDepth 20000 in
theorem gX4_digit_J0_length_8abf5 : GoodIn wsX4_digit (wsV RX4 128 RJ0 yJ0_length_8abf5 wsJ0_length_8abf5) := goodIn_app (goodIn_of _ (by decide +kernel)) ggX4_digit_J0_length_8abf5
set_option maxRecDepth 20000 in
theorem ggX4_digit_X4_is : GoodIn wsX4_digit wsX4_is := goodIn_r _ [18] (by decide +kernel) (by decide +kernel)
set_option maxRecDepth 20000 in
theorem gX4_digit_X4_is : GoodIn wsX4_digit (va_wsS RX4 31 yX4_is wsX4_is) := goodIn_app (goodIn_of _ (by decide +kernel)) ggX4_digit_X4_is
set_option maxRecDepth 20000 in
theorem ggX4_digit_X4_refuse : GoodIn wsX4_digit wsX4_refuse := goodIn_r _ [22, 1, 66, 67, 68, 69, 70, 71, 72, 73, 74, 75] (by decide +kernel) (by decide +kernel)
set_option maxRecDepth 20000 in
theorem gX4_digit_X4_refuse : GoodIn wsX4_digit (wsV RX4 147 RX4 yX4_refuse wsX4_refuse) := goodIn_app (goodIn_of _ (by decide +kernel)) ggX4_digit_X4_refuse
set_option maxRecDepth 20000 in
theorem ggX4_digit_J0_charAt_5068e : GoodIn wsX4_digit wsJ0_charAt_5068e := goodIn_r _ [26, 8, 27, 28, 29, 6, 30, 13, 14, 31, 32, 33, 34, 35, 36, 37, 38, 39, 40, 41, 42, 43, 44, 45, 46, 47, 48, 49, 50, 51, 52, 53, 54, 55, 56, 57, 58, 59, 76, 77, 78, 79] (by decide +kernel) (by decide +kernel)
set_option maxRecDepth 20000 in
theorem gX4_digit_J0_charAt_5068e : GoodIn wsX4_digit (wsV RX4 131 RJ0 yJ0_charAt_5068e wsJ0_charAt_5068e) := goodIn_app (goodIn_of _ (by decide +kernel)) ggX4_digit_J0_charAt_5068e
set_option maxRecDepth 20000 in
theorem ggX4_digit_X4_digitOf : GoodIn wsX4_digit wsX4_digitOf := goodIn_r _ [62, 63, 64, 17, 65] (by decide +kernel) (by decide +kernel)
set_option maxRecDepth 20000 in
theorem gX4_digit_X4_digitOf : GoodIn wsX4_digit (va_wsS RX4 227 yX4_digitOf wsX4_digitOf) := goodIn_app (goodIn_of _ (by decide +kernel)) ggX4_digit_X4_digitOf
theorem dX4_digit_0 : decode cX4_digit 0 = .ok (.aload_n 0, 1) := by decide +kernel
theorem dX4_digit_1 : decode cX4_digit 1 = .ok (.iconst 0, 1) := by decide +kernel
theorem dX4_digit_2 : decode cX4_digit 2 = .ok (.putfield 27, 3) := by decide +kernel
theorem dX4_digit_5 : decode cX4_digit 5 = .ok (.iload_n 1, 1) := by decide +kernel
theorem dX4_digit_6 : decode cX4_digit 6 = .ok (.iconst 0, 1) := by decide +kernel
theorem dX4_digit_7 : decode cX4_digit 7 = .ok (.aload_n 0, 1) := by decide +kernel
theorem dX4_digit_8 : decode cX4_digit 8 = .ok (.getfield 16, 3) := by decide +kernel
theorem dX4_digit_11 : decode cX4_digit 11 = .ok (.invokevirtual 128, 3) := by decide +kernel
theorem dX4_digit_14 : decode cX4_digit 14 = .ok (.iconst 1, 1) := by decide +kernel
theorem dX4_digit_15 : decode cX4_digit 15 = .ok (.isub, 1) := by decide +kernel
theorem dX4_digit_16 : decode cX4_digit 16 = .ok (.invokestatic 31, 3) := by decide +kernel
theorem dX4_digit_19 : decode cX4_digit 19 = .ok (.ifCond .ne 9, 3) := by decide +kernel
theorem dX4_digit_22 : decode cX4_digit 22 = .ok (.aload_n 0, 1) := by decide +kernel
theorem dX4_digit_23 : decode cX4_digit 23 = .ok (.iconst 1, 1) := by decide +kernel
theorem dX4_digit_24 : decode cX4_digit 24 = .ok (.invokevirtual 147, 3) := by decide +kernel
theorem dX4_digit_27 : decode cX4_digit 27 = .ok (.ireturn, 1) := by decide +kernel
theorem dX4_digit_28 : decode cX4_digit 28 = .ok (.iload_n 2, 1) := by decide +kernel
theorem dX4_digit_29 : decode cX4_digit 29 = .ok (.iconst 2, 1) := by decide +kernel
theorem dX4_digit_30 : decode cX4_digit 30 = .ok (.bipush 36, 2) := by decide +kernel
theorem dX4_digit_32 : decode cX4_digit 32 = .ok (.invokestatic 31, 3) := by decide +kernel
theorem dX4_digit_35 : decode cX4_digit 35 = .ok (.ifCond .eq 18, 3) := by decide +kernel
theorem dX4_digit_38 : decode cX4_digit 38 = .ok (.aload_n 0, 1) := by decide +kernel
theorem dX4_digit_39 : decode cX4_digit 39 = .ok (.getfield 16, 3) := by decide +kernel
theorem dX4_digit_42 : decode cX4_digit 42 = .ok (.iload_n 1, 1) := by decide +kernel
theorem dX4_digit_43 : decode cX4_digit 43 = .ok (.invokevirtual 131, 3) := by decide +kernel
theorem dX4_digit_46 : decode cX4_digit 46 = .ok (.iload_n 2, 1) := by decide +kernel
theorem dX4_digit_47 : decode cX4_digit 47 = .ok (.invokestatic 227, 3) := by decide +kernel
theorem dX4_digit_50 : decode cX4_digit 50 = .ok (.goto 8, 3) := by decide +kernel
theorem dX4_digit_53 : decode cX4_digit 53 = .ok (.aload_n 0, 1) := by decide +kernel
theorem dX4_digit_54 : decode cX4_digit 54 = .ok (.iconst 2, 1) := by decide +kernel
theorem dX4_digit_55 : decode cX4_digit 55 = .ok (.invokevirtual 147, 3) := by decide +kernel
theorem dX4_digit_58 : decode cX4_digit 58 = .ok (.ireturn, 1) := by decide +kernel
set_option maxRecDepth 20000 in
theorem ggX4_benchNow_J0_length_8abf5 : GoodIn wsX4_benchNow wsJ0_length_8abf5 := goodIn_r _ [10, 11, 12, 13, 14, 9, 15, 16, 17, 28, 29, 30, 31] (by decide +kernel) (by decide +kernel)
set_option maxRecDepth 20000 in
theorem gX4_benchNow_J0_length_8abf5 : GoodIn wsX4_benchNow (wsV RX4 128 RJ0 yJ0_length_8abf5 wsJ0_length_8abf5) := goodIn_app (goodIn_of _ (by decide +kernel)) ggX4_benchNow_J0_length_8abf5
theorem dX4_benchNow_0 : decode cX4_benchNow 0 = .ok (.iload_n 1, 1) := by decide +kernel
theorem dX4_benchNow_1 : decode cX4_benchNow 1 = .ok (.ifCond .ne 13, 3) := by decide +kernel
theorem dX4_benchNow_4 : decode cX4_benchNow 4 = .ok (.aload_n 0, 1) := by decide +kernel
theorem dX4_benchNow_5 : decode cX4_benchNow 5 = .ok (.getfield 16, 3) := by decide +kernel
theorem dX4_benchNow_8 : decode cX4_benchNow 8 = .ok (.invokevirtual 128, 3) := by decide +kernel
theorem dX4_benchNow_11 : decode cX4_benchNow 11 = .ok (.goto 43, 3) := by decide +kernel
theorem dX4_benchNow_14 : decode cX4_benchNow 14 = .ok (.iload_n 1, 1) := by decide +kernel
theorem dX4_benchNow_15 : decode cX4_benchNow 15 = .ok (.iconst 1, 1) := by decide +kernel
theorem dX4_benchNow_16 : decode cX4_benchNow 16 = .ok (.if_icmp .ne 10, 3) := by decide +kernel
theorem dX4_benchNow_19 : decode cX4_benchNow 19 = .ok (.aload_n 0, 1) := by decide +kernel
theorem dX4_benchNow_20 : decode cX4_benchNow 20 = .ok (.getfield 183, 3) := by decide +kernel
theorem dX4_benchNow_23 : decode cX4_benchNow 23 = .ok (.goto 31, 3) := by decide +kernel
theorem dX4_benchNow_26 : decode cX4_benchNow 26 = .ok (.iload_n 1, 1) := by decide +kernel
theorem dX4_benchNow_27 : decode cX4_benchNow 27 = .ok (.iconst 2, 1) := by decide +kernel
theorem dX4_benchNow_28 : decode cX4_benchNow 28 = .ok (.if_icmp .ne 10, 3) := by decide +kernel
theorem dX4_benchNow_31 : decode cX4_benchNow 31 = .ok (.aload_n 0, 1) := by decide +kernel
theorem dX4_benchNow_32 : decode cX4_benchNow 32 = .ok (.getfield 176, 3) := by decide +kernel
theorem dX4_benchNow_35 : decode cX4_benchNow 35 = .ok (.goto 19, 3) := by decide +kernel
theorem dX4_benchNow_38 : decode cX4_benchNow 38 = .ok (.iload_n 1, 1) := by decide +kernel
theorem dX4_benchNow_39 : decode cX4_benchNow 39 = .ok (.iconst 3, 1) := by decide +kernel
theorem dX4_benchNow_40 : decode cX4_benchNow 40 = .ok (.if_icmp .ne 10, 3) := by decide +kernel
theorem dX4_benchNow_43 : decode cX4_benchNow 43 = .ok (.aload_n 0, 1) := by decide +kernel
theorem dX4_benchNow_44 : decode cX4_benchNow 44 = .ok (.getfield 186, 3) := by decide +kernel
theorem dX4_benchNow_47 : decode cX4_benchNow 47 = .ok (.goto 7, 3) := by decide +kernel
theorem dX4_benchNow_50 : decode cX4_benchNow 50 = .ok (.aload_n 0, 1) := by decide +kernel
theorem dX4_benchNow_51 : decode cX4_benchNow 51 = .ok (.getfield 218, 3) := by decide +kernel
theorem dX4_benchNow_54 : decode cX4_benchNow 54 = .ok (.ireturn, 1) := by decide +kernel
set_option maxRecDepth 20000 in
theorem ggX4_bench_X4_is : GoodIn wsX4_bench wsX4_is := goodIn_r _ [5] (by decide +kernel) (by decide +kernel)
set_option maxRecDepth 20000 in
theorem gX4_bench_X4_is : GoodIn wsX4_bench (va_wsS RX4 31 yX4_is wsX4_is) := goodIn_app (goodIn_of _ (by decide +kernel)) ggX4_bench_X4_is
set_option maxRecDepth 20000 in
theorem ggX4_bench_X4_benchNow : GoodIn wsX4_bench wsX4_benchNow := goodIn_r _ [9, 10, 11, 12, 13, 14, 15, 16, 17, 18, 19, 20, 21, 22, 23, 24, 25, 26, 31, 32, 33, 34, 35, 36, 37, 38, 39, 40, 41, 42, 43, 44] (by decide +kernel) (by decide +kernel)
set_option maxRecDepth 20000 in
theorem gX4_bench_X4_benchNow : GoodIn wsX4_bench (wsV RX4 231 RX4 yX4_benchNow wsX4_benchNow) := goodIn_app (goodIn_of _ (by decide +kernel)) ggX4_bench_X4_benchNow
set_option maxRecDepth 20000 in
theorem ggX4_bench_X4_refuse : GoodIn wsX4_bench wsX4_refuse := goodIn_r _ [30, 1, 31, 32, 33, 34, 35, 36, 37, 38, 39, 40] (by decide +kernel) (by decide +kernel)
set_option maxRecDepth 20000 in
theorem gX4_bench_X4_refuse : GoodIn wsX4_bench (wsV RX4 147 RX4 yX4_refuse wsX4_refuse) := goodIn_app (goodIn_of _ (by decide +kernel)) ggX4_bench_X4_refuse
theorem dX4_bench_0 : decode cX4_bench 0 = .ok (.aload_n 0, 1) := by decide +kernel
theorem dX4_bench_1 : decode cX4_bench 1 = .ok (.iconst 0, 1) := by decide +kernel
theorem dX4_bench_2 : decode cX4_bench 2 = .ok (.putfield 27, 3) := by decide +kernel
theorem dX4_bench_5 : decode cX4_bench 5 = .ok (.iload_n 1, 1) := by decide +kernel
theorem dX4_bench_6 : decode cX4_bench 6 = .ok (.iconst 0, 1) := by decide +kernel
theorem dX4_bench_7 : decode cX4_bench 7 = .ok (.iconst 4, 1) := by decide +kernel
theorem dX4_bench_8 : decode cX4_bench 8 = .ok (.invokestatic 31, 3) := by decide +kernel
theorem dX4_bench_11 : decode cX4_bench 11 = .ok (.ifCond .eq 11, 3) := by decide +kernel
theorem dX4_bench_14 : decode cX4_bench 14 = .ok (.aload_n 0, 1) := by decide +kernel
theorem dX4_bench_15 : decode cX4_bench 15 = .ok (.iload_n 1, 1) := by decide +kernel
theorem dX4_bench_16 : decode cX4_bench 16 = .ok (.invokevirtual 231, 3) := by decide +kernel
theorem dX4_bench_19 : decode cX4_bench 19 = .ok (.goto 8, 3) := by decide +kernel
theorem dX4_bench_22 : decode cX4_bench 22 = .ok (.aload_n 0, 1) := by decide +kernel
theorem dX4_bench_23 : decode cX4_bench 23 = .ok (.iconst 1, 1) := by decide +kernel
theorem dX4_bench_24 : decode cX4_bench 24 = .ok (.invokevirtual 147, 3) := by decide +kernel
theorem dX4_bench_27 : decode cX4_bench 27 = .ok (.ireturn, 1) := by decide +kernel
set_option maxRecDepth 20000 in
theorem ggX4_isNumber_X4_isRight : GoodIn wsX4_isNumber wsX4_isRight := goodIn_r _ [6, 7, 8, 5, 9] (by decide +kernel) (by decide +kernel)
set_option maxRecDepth 20000 in
theorem gX4_isNumber_X4_isRight : GoodIn wsX4_isNumber (va_wsS RX4 172 yX4_isRight wsX4_isRight) := goodIn_app (goodIn_of _ (by decide +kernel)) ggX4_isNumber_X4_isRight
set_option maxRecDepth 20000 in
theorem ggX4_isNumber_X4_refuses : GoodIn wsX4_isNumber wsX4_refuses := goodIn_r _ [13, 1, 88, 89, 90, 91, 92, 93, 94, 95, 96, 97] (by decide +kernel) (by decide +kernel)
set_option maxRecDepth 20000 in
theorem gX4_isNumber_X4_refuses : GoodIn wsX4_isNumber (wsV RX4 157 RX4 yX4_refuses wsX4_refuses) := goodIn_app (goodIn_of _ (by decide +kernel)) ggX4_isNumber_X4_refuses
set_option maxRecDepth 20000 in
theorem ggX4_isNumber_X4_said : GoodIn wsX4_isNumber wsX4_said := goodIn_r _ [16, 17, 18, 19, 20, 21, 22, 23, 24, 25, 26, 27, 28, 29, 30, 31, 32, 33, 34, 35, 36, 37, 38, 39, 40, 41, 42, 43, 44, 45, 46, 47, 48, 49, 50, 51, 52, 53, 54, 55, 56, 57, 58, 59, 60, 61, 62, 63, 64, 65, 66, 67, 68, 69, 5, 70, 71, 72, 73, 74, 75, 76, 77, 78, 79, 80, 81, 82, 83, 84, 85, 86, 87, 98, 99, 100, 101] (by decide +kernel) (by decide +kernel)
set_option maxRecDepth 20000 in
theorem gX4_isNumber_X4_said : GoodIn wsX4_isNumber (va_wsS RX4 179 yX4_said wsX4_said) := goodIn_app (goodIn_of _ (by decide +kernel)) ggX4_isNumber_X4_said
theorem dX4_isNumber_0 : decode cX4_isNumber 0 = .ok (.aload_n 0, 1) := by decide +kernel
theorem dX4_isNumber_1 : decode cX4_isNumber 1 = .ok (.iconst 0, 1) := by decide +kernel
theorem dX4_isNumber_2 : decode cX4_isNumber 2 = .ok (.putfield 27, 3) := by decide +kernel
theorem dX4_isNumber_5 : decode cX4_isNumber 5 = .ok (.iload_n 1, 1) := by decide +kernel
theorem dX4_isNumber_6 : decode cX4_isNumber 6 = .ok (.iload_n 2, 1) := by decide +kernel
theorem dX4_isNumber_7 : decode cX4_isNumber 7 = .ok (.invokestatic 172, 3) := by decide +kernel
theorem dX4_isNumber_10 : decode cX4_isNumber 10 = .ok (.ifCond .ne 9, 3) := by decide +kernel
theorem dX4_isNumber_13 : decode cX4_isNumber 13 = .ok (.aload_n 0, 1) := by decide +kernel
theorem dX4_isNumber_14 : decode cX4_isNumber 14 = .ok (.iconst 1, 1) := by decide +kernel
theorem dX4_isNumber_15 : decode cX4_isNumber 15 = .ok (.invokevirtual 157, 3) := by decide +kernel
theorem dX4_isNumber_18 : decode cX4_isNumber 18 = .ok (.ireturn, 1) := by decide +kernel
theorem dX4_isNumber_19 : decode cX4_isNumber 19 = .ok (.aload_n 0, 1) := by decide +kernel
theorem dX4_isNumber_20 : decode cX4_isNumber 20 = .ok (.getfield 16, 3) := by decide +kernel
theorem dX4_isNumber_23 : decode cX4_isNumber 23 = .ok (.iload_n 1, 1) := by decide +kernel
theorem dX4_isNumber_24 : decode cX4_isNumber 24 = .ok (.iload_n 2, 1) := by decide +kernel
theorem dX4_isNumber_25 : decode cX4_isNumber 25 = .ok (.invokestatic 179, 3) := by decide +kernel
theorem dX4_isNumber_28 : decode cX4_isNumber 28 = .ok (.ifnull 7, 3) := by decide +kernel
theorem dX4_isNumber_31 : decode cX4_isNumber 31 = .ok (.iconst 1, 1) := by decide +kernel
theorem dX4_isNumber_32 : decode cX4_isNumber 32 = .ok (.goto 4, 3) := by decide +kernel
theorem dX4_isNumber_35 : decode cX4_isNumber 35 = .ok (.iconst 0, 1) := by decide +kernel
theorem dX4_isNumber_36 : decode cX4_isNumber 36 = .ok (.ireturn, 1) := by decide +kernel
set_option maxRecDepth 20000 in
theorem ggX4_wouldNow_X4_said : GoodIn wsX4_wouldNow wsX4_said := goodIn_r _ [5, 6, 7, 8, 9, 10, 11, 12, 13, 14, 15, 16, 17, 18, 19, 20, 21, 22, 23, 24, 25, 26, 27, 28, 29, 30, 31, 32, 33, 34, 35, 36, 37, 38, 39, 40, 41, 42, 43, 44, 45, 46, 47, 48, 49, 50, 51, 52, 53, 54, 55, 56, 57, 58, 4, 59, 60, 61, 62, 63, 64, 65, 66, 67, 68, 69, 70, 71, 72, 73, 74, 75, 76, 93, 94, 95, 96] (by decide +kernel) (by decide +kernel)
set_option maxRecDepth 20000 in
theorem gX4_wouldNow_X4_said : GoodIn wsX4_wouldNow (va_wsS RX4 179 yX4_said wsX4_said) := goodIn_app (goodIn_of _ (by decide +kernel)) ggX4_wouldNow_X4_said
set_option maxRecDepth 20000 in
theorem ggX4_wouldNow_X4_wide : GoodIn wsX4_wouldNow wsX4_wide := goodIn_r _ [79, 6, 69, 73, 74, 4, 75, 76] (by decide +kernel) (by decide +kernel)
set_option maxRecDepth 20000 in
theorem gX4_wouldNow_X4_wide : GoodIn wsX4_wouldNow (va_wsS RX4 58 yX4_wide wsX4_wide) := goodIn_app (goodIn_of _ (by decide +kernel)) ggX4_wouldNow_X4_wide
set_option maxRecDepth 20000 in
theorem ggX4_wouldNow_X4_half : GoodIn wsX4_wouldNow wsX4_half := goodIn_r _ [82, 76, 7] (by decide +kernel) (by decide +kernel)
set_option maxRecDepth 20000 in
theorem gX4_wouldNow_X4_half : GoodIn wsX4_wouldNow (va_wsS RX4 221 yX4_half wsX4_half) := goodIn_app (goodIn_of _ (by decide +kernel)) ggX4_wouldNow_X4_half
theorem dX4_wouldNow_0 : decode cX4_wouldNow 0 = .ok (.aload_n 0, 1) := by decide +kernel
theorem dX4_wouldNow_1 : decode cX4_wouldNow 1 = .ok (.getfield 16, 3) := by decide +kernel
theorem dX4_wouldNow_4 : decode cX4_wouldNow 4 = .ok (.iload_n 1, 1) := by decide +kernel
theorem dX4_wouldNow_5 : decode cX4_wouldNow 5 = .ok (.iload_n 2, 1) := by decide +kernel
theorem dX4_wouldNow_6 : decode cX4_wouldNow 6 = .ok (.invokestatic 179, 3) := by decide +kernel
theorem dX4_wouldNow_9 : decode cX4_wouldNow 9 = .ok (.astore 4, 2) := by decide +kernel
theorem dX4_wouldNow_11 : decode cX4_wouldNow 11 = .ok (.aload 4, 2) := by decide +kernel
theorem dX4_wouldNow_13 : decode cX4_wouldNow 13 = .ok (.ifnonnull 7, 3) := by decide +kernel
theorem dX4_wouldNow_16 : decode cX4_wouldNow 16 = .ok (.iconst 0, 1) := by decide +kernel
theorem dX4_wouldNow_17 : decode cX4_wouldNow 17 = .ok (.goto 20, 3) := by decide +kernel
theorem dX4_wouldNow_20 : decode cX4_wouldNow 20 = .ok (.aload 4, 2) := by decide +kernel
theorem dX4_wouldNow_22 : decode cX4_wouldNow 22 = .ok (.invokestatic 58, 3) := by decide +kernel
theorem dX4_wouldNow_25 : decode cX4_wouldNow 25 = .ok (.iload_n 3, 1) := by decide +kernel
theorem dX4_wouldNow_26 : decode cX4_wouldNow 26 = .ok (.ifCond .eq 7, 3) := by decide +kernel
theorem dX4_wouldNow_29 : decode cX4_wouldNow 29 = .ok (.iconst 2, 1) := by decide +kernel
theorem dX4_wouldNow_30 : decode cX4_wouldNow 30 = .ok (.goto 4, 3) := by decide +kernel
theorem dX4_wouldNow_33 : decode cX4_wouldNow 33 = .ok (.iconst 0, 1) := by decide +kernel
theorem dX4_wouldNow_34 : decode cX4_wouldNow 34 = .ok (.invokestatic 221, 3) := by decide +kernel
theorem dX4_wouldNow_37 : decode cX4_wouldNow 37 = .ok (.ireturn, 1) := by decide +kernel
set_option maxRecDepth 20000 in
theorem ggX4_would_X4_isRight : GoodIn wsX4_would wsX4_isRight := goodIn_r _ [5, 6, 7, 4, 8] (by decide +kernel) (by decide +kernel)
set_option maxRecDepth 20000 in
theorem gX4_would_X4_isRight : GoodIn wsX4_would (va_wsS RX4 172 yX4_isRight wsX4_isRight) := goodIn_app (goodIn_of _ (by decide +kernel)) ggX4_would_X4_isRight
set_option maxRecDepth 20000 in
theorem ggX4_would_X4_wouldNow : GoodIn wsX4_would wsX4_wouldNow := goodIn_r _ [12, 13, 14, 15, 4, 16, 17, 18, 19, 20, 21, 22, 23, 24, 25, 26, 27, 28, 29, 30, 31, 32, 33, 34, 35, 36, 37, 38, 39, 40, 41, 42, 43, 44, 45, 46, 47, 48, 49, 50, 51, 52, 53, 54, 55, 56, 57, 58, 59, 60, 61, 62, 63, 64, 65, 66, 67, 68, 69, 70, 71, 72, 73, 74, 75, 76, 77, 78, 79, 80, 81, 82, 83, 84, 85, 86, 87, 88, 89, 90, 91, 92, 93, 98, 99, 100, 101, 102, 103, 104, 105, 106, 107, 108, 109, 110, 111] (by decide +kernel) (by decide +kernel)
set_option maxRecDepth 20000 in
theorem gX4_would_X4_wouldNow : GoodIn wsX4_would (wsV RX4 234 RX4 yX4_wouldNow wsX4_wouldNow) := goodIn_app (goodIn_of _ (by decide +kernel)) ggX4_would_X4_wouldNow
set_option maxRecDepth 20000 in
theorem ggX4_would_X4_refuse : GoodIn wsX4_would wsX4_refuse := goodIn_r _ [97, 1, 98, 99, 100, 101, 102, 103, 104, 105, 106, 107] (by decide +kernel) (by decide +kernel)
set_option maxRecDepth 20000 in
theorem gX4_would_X4_refuse : GoodIn wsX4_would (wsV RX4 147 RX4 yX4_refuse wsX4_refuse) := goodIn_app (goodIn_of _ (by decide +kernel)) ggX4_would_X4_refuse
theorem dX4_would_0 : decode cX4_would 0 = .ok (.aload_n 0, 1) := by decide +kernel
theorem dX4_would_1 : decode cX4_would 1 = .ok (.iconst 0, 1) := by decide +kernel
theorem dX4_would_2 : decode cX4_would 2 = .ok (.putfield 27, 3) := by decide +kernel
theorem dX4_would_5 : decode cX4_would 5 = .ok (.iload_n 1, 1) := by decide +kernel
theorem dX4_would_6 : decode cX4_would 6 = .ok (.iload_n 2, 1) := by decide +kernel
theorem dX4_would_7 : decode cX4_would 7 = .ok (.invokestatic 172, 3) := by decide +kernel
theorem dX4_would_10 : decode cX4_would 10 = .ok (.ifCond .eq 13, 3) := by decide +kernel
theorem dX4_would_13 : decode cX4_would 13 = .ok (.aload_n 0, 1) := by decide +kernel
theorem dX4_would_14 : decode cX4_would 14 = .ok (.iload_n 1, 1) := by decide +kernel
theorem dX4_would_15 : decode cX4_would 15 = .ok (.iload_n 2, 1) := by decide +kernel
theorem dX4_would_16 : decode cX4_would 16 = .ok (.iload_n 3, 1) := by decide +kernel
theorem dX4_would_17 : decode cX4_would 17 = .ok (.invokevirtual 234, 3) := by decide +kernel
theorem dX4_would_20 : decode cX4_would 20 = .ok (.goto 8, 3) := by decide +kernel
theorem dX4_would_23 : decode cX4_would 23 = .ok (.aload_n 0, 1) := by decide +kernel
theorem dX4_would_24 : decode cX4_would 24 = .ok (.iconst 1, 1) := by decide +kernel
theorem dX4_would_25 : decode cX4_would 25 = .ok (.invokevirtual 147, 3) := by decide +kernel
theorem dX4_would_28 : decode cX4_would 28 = .ok (.ireturn, 1) := by decide +kernel
set_option maxRecDepth 20000 in
theorem ggX4_written_X4_isCell : GoodIn wsX4_written wsX4_isCell := goodIn_r _ [5, 6, 7, 4, 8] (by decide +kernel) (by decide +kernel)
set_option maxRecDepth 20000 in
theorem gX4_written_X4_isCell : GoodIn wsX4_written (va_wsS RX4 143 yX4_isCell wsX4_isCell) := goodIn_app (goodIn_of _ (by decide +kernel)) ggX4_written_X4_isCell
set_option maxRecDepth 20000 in
theorem ggX4_written_X4_isRight : GoodIn wsX4_written wsX4_isRight := goodIn_r _ [11, 6, 7, 4, 8] (by decide +kernel) (by decide +kernel)
set_option maxRecDepth 20000 in
theorem gX4_written_X4_isRight : GoodIn wsX4_written (va_wsS RX4 172 yX4_isRight wsX4_isRight) := goodIn_app (goodIn_of _ (by decide +kernel)) ggX4_written_X4_isRight
set_option maxRecDepth 20000 in
theorem ggX4_written_X4_writtenNow : GoodIn wsX4_written wsX4_writtenNow := goodIn_r _ [15, 16, 17, 18, 4, 19, 20, 21, 22, 23, 24, 25, 26, 27, 28, 29, 30, 31, 32, 33, 34, 35, 36, 37, 38, 39, 40, 41, 42, 43, 44, 45, 46, 47, 48, 49, 50, 51, 52, 53, 54, 55, 56, 57, 58, 59, 60, 61, 62, 63, 64, 65, 66, 67, 68, 69, 70, 71, 72, 73, 74, 75, 76, 77, 78, 79, 80, 81, 82, 83, 84, 85, 86, 87, 88, 89, 90, 91, 92, 93, 94, 95, 96, 97, 98, 99, 100, 101, 102, 103, 104, 105, 106, 107, 108, 109, 110, 111, 112, 113, 114, 115, 116, 117, 118, 119, 120, 121, 122, 123, 124, 125, 126, 127, 128, 129, 130, 131, 132, 133, 134, 135, 136, 137, 138, 139, 140, 141, 142, 143, 144, 145, 146, 147, 148, 149, 150, 151, 152, 153, 154, 155, 156, 157, 158, 159, 160, 161, 162, 163, 164, 165, 166, 167, 168, 169, 170, 171, 172, 173, 174, 175, 176, 177, 178, 179, 180, 181, 182, 183, 184, 185, 186, 187, 188, 189, 190, 191, 192, 193, 194, 195, 196, 197, 198, 199, 200, 201, 202, 203, 204, 205, 206, 207, 208, 209, 210, 211, 212, 213, 214, 215, 216, 217, 218, 219, 220, 221, 222, 223, 224, 225, 226, 227, 228, 229, 230, 231, 232, 233, 234, 235, 236, 237, 238, 239, 240, 241, 242, 243, 244, 245, 246, 247, 248, 249, 250, 251, 252, 253, 254, 255, 256, 257, 258, 259, 260, 261, 262, 263, 264, 265, 266, 267, 268, 269, 270, 271, 272, 273, 274, 275, 276, 277, 278, 279, 280, 281, 282, 283, 284, 285, 286, 287, 288, 289, 290, 291, 292, 293, 294, 295, 296, 297, 298, 299, 300, 301, 302, 303, 304, 305, 306, 307, 308, 309, 310, 311, 312, 313] (by decide +kernel) (by decide +kernel)
set_option maxRecDepth 20000 in
theorem gX4_written_X4_writtenNow : GoodIn wsX4_written (wsV RX4 189 RX4 yX4_writtenNow wsX4_writtenNow) := goodIn_app (goodIn_of _ (by decide +kernel)) ggX4_written_X4_writtenNow
theorem dX4_written_0 : decode cX4_written 0 = .ok (.aload_n 0, 1) := by decide +kernel
theorem dX4_written_1 : decode cX4_written 1 = .ok (.iload_n 1, 1) := by decide +kernel
theorem dX4_written_2 : decode cX4_written 2 = .ok (.invokestatic 143, 3) := by decide +kernel
theorem dX4_written_5 : decode cX4_written 5 = .ok (.ifCond .ne 7, 3) := by decide +kernel
theorem dX4_written_8 : decode cX4_written 8 = .ok (.iconst 1, 1) := by decide +kernel
theorem dX4_written_9 : decode cX4_written 9 = .ok (.goto 16, 3) := by decide +kernel
theorem dX4_written_12 : decode cX4_written 12 = .ok (.iload_n 2, 1) := by decide +kernel
theorem dX4_written_13 : decode cX4_written 13 = .ok (.iload_n 3, 1) := by decide +kernel
theorem dX4_written_14 : decode cX4_written 14 = .ok (.invokestatic 172, 3) := by decide +kernel
theorem dX4_written_17 : decode cX4_written 17 = .ok (.ifCond .eq 7, 3) := by decide +kernel
theorem dX4_written_20 : decode cX4_written 20 = .ok (.iconst 0, 1) := by decide +kernel
theorem dX4_written_21 : decode cX4_written 21 = .ok (.goto 4, 3) := by decide +kernel
theorem dX4_written_24 : decode cX4_written 24 = .ok (.iconst 2, 1) := by decide +kernel
theorem dX4_written_25 : decode cX4_written 25 = .ok (.putfield 27, 3) := by decide +kernel
theorem dX4_written_28 : decode cX4_written 28 = .ok (.aload_n 0, 1) := by decide +kernel
theorem dX4_written_29 : decode cX4_written 29 = .ok (.getfield 27, 3) := by decide +kernel
theorem dX4_written_32 : decode cX4_written 32 = .ok (.ifCond .ne 13, 3) := by decide +kernel
theorem dX4_written_35 : decode cX4_written 35 = .ok (.aload_n 0, 1) := by decide +kernel
theorem dX4_written_36 : decode cX4_written 36 = .ok (.iload_n 1, 1) := by decide +kernel
theorem dX4_written_37 : decode cX4_written 37 = .ok (.iload_n 2, 1) := by decide +kernel
theorem dX4_written_38 : decode cX4_written 38 = .ok (.iload_n 3, 1) := by decide +kernel
theorem dX4_written_39 : decode cX4_written 39 = .ok (.invokevirtual 189, 3) := by decide +kernel
theorem dX4_written_42 : decode cX4_written 42 = .ok (.goto 5, 3) := by decide +kernel
theorem dX4_written_45 : decode cX4_written 45 = .ok (.ldc 14, 2) := by decide +kernel
theorem dX4_written_47 : decode cX4_written 47 = .ok (.areturn, 1) := by decide +kernel
set_option maxRecDepth 20000 in
theorem ggX4_sameNow_X4_said : GoodIn wsX4_sameNow wsX4_said := goodIn_r _ [5, 6, 7, 8, 9, 10, 11, 12, 13, 14, 15, 16, 17, 18, 19, 20, 21, 22, 23, 24, 25, 26, 27, 28, 29, 30, 31, 32, 33, 34, 35, 36, 37, 38, 39, 40, 41, 42, 43, 44, 45, 46, 47, 48, 49, 50, 51, 52, 53, 54, 55, 56, 57, 58, 4, 59, 60, 61, 62, 63, 64, 65, 66, 67, 68, 69, 70, 71, 72, 73, 74, 75, 76, 98, 99, 100, 101] (by decide +kernel) (by decide +kernel)
set_option maxRecDepth 20000 in
theorem gX4_sameNow_X4_said : GoodIn wsX4_sameNow (va_wsS RX4 179 yX4_said wsX4_said) := goodIn_app (goodIn_of _ (by decide +kernel)) ggX4_sameNow_X4_said
set_option maxRecDepth 20000 in
theorem ggX4_sameNow_X4_of : GoodIn wsX4_sameNow wsX4_of := goodIn_r _ [80, 81, 82, 83, 4, 84, 6, 88, 89, 90, 91, 92, 93, 94, 95, 96, 97] (by decide +kernel) (by decide +kernel)
set_option maxRecDepth 20000 in
theorem gX4_sameNow_X4_of : GoodIn wsX4_sameNow (wsV RX4 120 RX4 yX4_of wsX4_of) := goodIn_app (goodIn_of _ (by decide +kernel)) ggX4_sameNow_X4_of
set_option maxRecDepth 20000 in
theorem ggX4_sameNow_X4_isSame : GoodIn wsX4_sameNow wsX4_isSame := goodIn_r _ [72] (by decide +kernel) (by decide +kernel)
set_option maxRecDepth 20000 in
theorem gX4_sameNow_X4_isSame : GoodIn wsX4_sameNow (va_wsS RX4 62 yX4_isSame wsX4_isSame) := goodIn_app (goodIn_of _ (by decide +kernel)) ggX4_sameNow_X4_isSame
set_option maxRecDepth 20000 in
theorem ggX4_sameNow_X4_power : GoodIn wsX4_sameNow wsX4_power := goodIn_r _ [87] (by decide +kernel) (by decide +kernel)
set_option maxRecDepth 20000 in
theorem gX4_sameNow_X4_power : GoodIn wsX4_sameNow (va_wsS RX4 35 yX4_power wsX4_power) := goodIn_app (goodIn_of _ (by decide +kernel)) ggX4_sameNow_X4_power
theorem dX4_sameNow_0 : decode cX4_sameNow 0 = .ok (.aload_n 0, 1) := by decide +kernel
theorem dX4_sameNow_1 : decode cX4_sameNow 1 = .ok (.getfield 16, 3) := by decide +kernel
theorem dX4_sameNow_4 : decode cX4_sameNow 4 = .ok (.iload_n 1, 1) := by decide +kernel
theorem dX4_sameNow_5 : decode cX4_sameNow 5 = .ok (.iload_n 2, 1) := by decide +kernel
theorem dX4_sameNow_6 : decode cX4_sameNow 6 = .ok (.invokestatic 179, 3) := by decide +kernel
theorem dX4_sameNow_9 : decode cX4_sameNow 9 = .ok (.astore_n 3, 1) := by decide +kernel
theorem dX4_sameNow_10 : decode cX4_sameNow 10 = .ok (.iconst 0, 1) := by decide +kernel
theorem dX4_sameNow_11 : decode cX4_sameNow 11 = .ok (.istore 4, 2) := by decide +kernel
theorem dX4_sameNow_13 : decode cX4_sameNow 13 = .ok (.iconst 0, 1) := by decide +kernel
theorem dX4_sameNow_14 : decode cX4_sameNow 14 = .ok (.istore 5, 2) := by decide +kernel
theorem dX4_sameNow_16 : decode cX4_sameNow 16 = .ok (.iload 5, 2) := by decide +kernel
theorem dX4_sameNow_18 : decode cX4_sameNow 18 = .ok (.bipush 8, 2) := by decide +kernel
theorem dX4_sameNow_20 : decode cX4_sameNow 20 = .ok (.if_icmp .ge 46, 3) := by decide +kernel
theorem dX4_sameNow_23 : decode cX4_sameNow 23 = .ok (.aload_n 3, 1) := by decide +kernel
theorem dX4_sameNow_24 : decode cX4_sameNow 24 = .ok (.ifnull 42, 3) := by decide +kernel
theorem dX4_sameNow_27 : decode cX4_sameNow 27 = .ok (.aload_n 3, 1) := by decide +kernel
theorem dX4_sameNow_28 : decode cX4_sameNow 28 = .ok (.aload_n 0, 1) := by decide +kernel
theorem dX4_sameNow_29 : decode cX4_sameNow 29 = .ok (.iload 5, 2) := by decide +kernel
theorem dX4_sameNow_31 : decode cX4_sameNow 31 = .ok (.iload_n 2, 1) := by decide +kernel
theorem dX4_sameNow_32 : decode cX4_sameNow 32 = .ok (.iconst 2, 1) := by decide +kernel
theorem dX4_sameNow_33 : decode cX4_sameNow 33 = .ok (.if_icmp .ge 7, 3) := by decide +kernel
theorem dX4_sameNow_36 : decode cX4_sameNow 36 = .ok (.iconst 1, 1) := by decide +kernel
theorem dX4_sameNow_37 : decode cX4_sameNow 37 = .ok (.goto 4, 3) := by decide +kernel
theorem dX4_sameNow_40 : decode cX4_sameNow 40 = .ok (.iconst 0, 1) := by decide +kernel
theorem dX4_sameNow_41 : decode cX4_sameNow 41 = .ok (.invokevirtual 120, 3) := by decide +kernel
theorem dX4_sameNow_44 : decode cX4_sameNow 44 = .ok (.invokestatic 62, 3) := by decide +kernel
theorem dX4_sameNow_47 : decode cX4_sameNow 47 = .ok (.ifCond .eq 13, 3) := by decide +kernel
theorem dX4_sameNow_50 : decode cX4_sameNow 50 = .ok (.iload 4, 2) := by decide +kernel
theorem dX4_sameNow_52 : decode cX4_sameNow 52 = .ok (.iload 5, 2) := by decide +kernel
theorem dX4_sameNow_54 : decode cX4_sameNow 54 = .ok (.invokestatic 35, 3) := by decide +kernel
theorem dX4_sameNow_57 : decode cX4_sameNow 57 = .ok (.iadd, 1) := by decide +kernel
theorem dX4_sameNow_58 : decode cX4_sameNow 58 = .ok (.istore 4, 2) := by decide +kernel
theorem dX4_sameNow_60 : decode cX4_sameNow 60 = .ok (.iinc 5 1, 3) := by decide +kernel
theorem dX4_sameNow_63 : decode cX4_sameNow 63 = .ok (.goto (-47), 3) := by decide +kernel
theorem dX4_sameNow_66 : decode cX4_sameNow 66 = .ok (.iload 4, 2) := by decide +kernel
theorem dX4_sameNow_68 : decode cX4_sameNow 68 = .ok (.ireturn, 1) := by decide +kernel
set_option maxRecDepth 20000 in
theorem ggX4_same_X4_isRight : GoodIn wsX4_same wsX4_isRight := goodIn_r _ [5, 6, 7, 4, 8] (by decide +kernel) (by decide +kernel)
set_option maxRecDepth 20000 in
theorem gX4_same_X4_isRight : GoodIn wsX4_same (va_wsS RX4 172 yX4_isRight wsX4_isRight) := goodIn_app (goodIn_of _ (by decide +kernel)) ggX4_same_X4_isRight
set_option maxRecDepth 20000 in
theorem ggX4_same_X4_sameNow : GoodIn wsX4_same wsX4_sameNow := goodIn_r _ [12, 13, 14, 15, 4, 16, 17, 18, 19, 20, 21, 22, 23, 24, 25, 26, 27, 28, 29, 30, 31, 32, 33, 34, 35, 36, 37, 38, 39, 40, 41, 42, 43, 44, 45, 46, 47, 48, 49, 50, 51, 52, 53, 54, 55, 56, 57, 58, 59, 60, 61, 62, 63, 64, 65, 66, 67, 68, 69, 70, 71, 72, 73, 74, 75, 76, 77, 78, 79, 80, 81, 82, 83, 84, 85, 86, 87, 88, 89, 90, 91, 92, 93, 94, 95, 96, 97, 98, 103, 104, 105, 106, 107, 108, 109, 110, 111, 112, 113, 114, 115, 116] (by decide +kernel) (by decide +kernel)
set_option maxRecDepth 20000 in
theorem gX4_same_X4_sameNow : GoodIn wsX4_same (wsV RX4 237 RX4 yX4_sameNow wsX4_sameNow) := goodIn_app (goodIn_of _ (by decide +kernel)) ggX4_same_X4_sameNow
set_option maxRecDepth 20000 in
theorem ggX4_same_X4_refuse : GoodIn wsX4_same wsX4_refuse := goodIn_r _ [102, 1, 103, 104, 105, 106, 107, 108, 109, 110, 111, 112] (by decide +kernel) (by decide +kernel)
set_option maxRecDepth 20000 in
theorem gX4_same_X4_refuse : GoodIn wsX4_same (wsV RX4 147 RX4 yX4_refuse wsX4_refuse) := goodIn_app (goodIn_of _ (by decide +kernel)) ggX4_same_X4_refuse
theorem dX4_same_0 : decode cX4_same 0 = .ok (.aload_n 0, 1) := by decide +kernel
theorem dX4_same_1 : decode cX4_same 1 = .ok (.iconst 0, 1) := by decide +kernel
theorem dX4_same_2 : decode cX4_same 2 = .ok (.putfield 27, 3) := by decide +kernel
theorem dX4_same_5 : decode cX4_same 5 = .ok (.iload_n 1, 1) := by decide +kernel
theorem dX4_same_6 : decode cX4_same 6 = .ok (.iload_n 2, 1) := by decide +kernel
theorem dX4_same_7 : decode cX4_same 7 = .ok (.invokestatic 172, 3) := by decide +kernel
theorem dX4_same_10 : decode cX4_same 10 = .ok (.ifCond .eq 12, 3) := by decide +kernel
theorem dX4_same_13 : decode cX4_same 13 = .ok (.aload_n 0, 1) := by decide +kernel
theorem dX4_same_14 : decode cX4_same 14 = .ok (.iload_n 1, 1) := by decide +kernel
theorem dX4_same_15 : decode cX4_same 15 = .ok (.iload_n 2, 1) := by decide +kernel
theorem dX4_same_16 : decode cX4_same 16 = .ok (.invokevirtual 237, 3) := by decide +kernel
theorem dX4_same_19 : decode cX4_same 19 = .ok (.goto 8, 3) := by decide +kernel
theorem dX4_same_22 : decode cX4_same 22 = .ok (.aload_n 0, 1) := by decide +kernel
theorem dX4_same_23 : decode cX4_same 23 = .ok (.iconst 1, 1) := by decide +kernel
theorem dX4_same_24 : decode cX4_same 24 = .ok (.invokevirtual 147, 3) := by decide +kernel
theorem dX4_same_27 : decode cX4_same 27 = .ok (.ireturn, 1) := by decide +kernel
set_option maxRecDepth 20000 in
theorem ggX4_isTold_X4_size : GoodIn wsX4_isTold wsX4_size := goodIn_r _ [5] (by decide +kernel) (by decide +kernel)
set_option maxRecDepth 20000 in
theorem gX4_isTold_X4_size : GoodIn wsX4_isTold (va_wsS RX4 132 yX4_size wsX4_size) := goodIn_app (goodIn_of _ (by decide +kernel)) ggX4_isTold_X4_size
set_option maxRecDepth 20000 in
theorem ggX4_isTold_X4_isBack : GoodIn wsX4_isTold wsX4_isBack := goodIn_r _ [9, 10, 11, 12, 13, 14, 15, 16, 17, 4, 18, 19, 20, 21, 22, 23, 24, 25, 26, 27, 28, 29, 30, 31, 32, 33, 34, 35, 36] (by decide +kernel) (by decide +kernel)
set_option maxRecDepth 20000 in
theorem gX4_isTold_X4_isBack : GoodIn wsX4_isTold (wsV RX4 241 RX4 yX4_isBack wsX4_isBack) := goodIn_app (goodIn_of _ (by decide +kernel)) ggX4_isTold_X4_isBack
theorem dX4_isTold_0 : decode cX4_isTold 0 = .ok (.iconst 2, 1) := by decide +kernel
theorem dX4_isTold_1 : decode cX4_isTold 1 = .ok (.istore_n 2, 1) := by decide +kernel
theorem dX4_isTold_2 : decode cX4_isTold 2 = .ok (.iload_n 2, 1) := by decide +kernel
theorem dX4_isTold_3 : decode cX4_isTold 3 = .ok (.bipush 37, 2) := by decide +kernel
theorem dX4_isTold_5 : decode cX4_isTold 5 = .ok (.if_icmp .ge 53, 3) := by decide +kernel
theorem dX4_isTold_8 : decode cX4_isTold 8 = .ok (.iconst 0, 1) := by decide +kernel
theorem dX4_isTold_9 : decode cX4_isTold 9 = .ok (.istore_n 3, 1) := by decide +kernel
theorem dX4_isTold_10 : decode cX4_isTold 10 = .ok (.iload_n 3, 1) := by decide +kernel
theorem dX4_isTold_11 : decode cX4_isTold 11 = .ok (.iconst 4, 1) := by decide +kernel
theorem dX4_isTold_12 : decode cX4_isTold 12 = .ok (.if_icmp .ge 40, 3) := by decide +kernel
theorem dX4_isTold_15 : decode cX4_isTold 15 = .ok (.aload_n 0, 1) := by decide +kernel
theorem dX4_isTold_16 : decode cX4_isTold 16 = .ok (.aload_n 0, 1) := by decide +kernel
theorem dX4_isTold_17 : decode cX4_isTold 17 = .ok (.getfield 11, 3) := by decide +kernel
theorem dX4_isTold_20 : decode cX4_isTold 20 = .ok (.iload_n 1, 1) := by decide +kernel
theorem dX4_isTold_21 : decode cX4_isTold 21 = .ok (.aaload, 1) := by decide +kernel
theorem dX4_isTold_22 : decode cX4_isTold 22 = .ok (.iload_n 3, 1) := by decide +kernel
theorem dX4_isTold_23 : decode cX4_isTold 23 = .ok (.invokestatic 132, 3) := by decide +kernel
theorem dX4_isTold_26 : decode cX4_isTold 26 = .ok (.iload_n 2, 1) := by decide +kernel
theorem dX4_isTold_27 : decode cX4_isTold 27 = .ok (.iload_n 3, 1) := by decide +kernel
theorem dX4_isTold_28 : decode cX4_isTold 28 = .ok (.iconst 2, 1) := by decide +kernel
theorem dX4_isTold_29 : decode cX4_isTold 29 = .ok (.irem, 1) := by decide +kernel
theorem dX4_isTold_30 : decode cX4_isTold 30 = .ok (.ifCond .ne 7, 3) := by decide +kernel
theorem dX4_isTold_33 : decode cX4_isTold 33 = .ok (.iconst 1, 1) := by decide +kernel
theorem dX4_isTold_34 : decode cX4_isTold 34 = .ok (.goto 4, 3) := by decide +kernel
theorem dX4_isTold_37 : decode cX4_isTold 37 = .ok (.iconst 0, 1) := by decide +kernel
theorem dX4_isTold_38 : decode cX4_isTold 38 = .ok (.invokevirtual 241, 3) := by decide +kernel
theorem dX4_isTold_41 : decode cX4_isTold 41 = .ok (.ifCond .ne 5, 3) := by decide +kernel
theorem dX4_isTold_44 : decode cX4_isTold 44 = .ok (.iconst 0, 1) := by decide +kernel
theorem dX4_isTold_45 : decode cX4_isTold 45 = .ok (.ireturn, 1) := by decide +kernel
theorem dX4_isTold_46 : decode cX4_isTold 46 = .ok (.iinc 3 1, 3) := by decide +kernel
theorem dX4_isTold_49 : decode cX4_isTold 49 = .ok (.goto (-39), 3) := by decide +kernel
theorem dX4_isTold_52 : decode cX4_isTold 52 = .ok (.iinc 2 1, 3) := by decide +kernel
theorem dX4_isTold_55 : decode cX4_isTold 55 = .ok (.goto (-53), 3) := by decide +kernel
theorem dX4_isTold_58 : decode cX4_isTold 58 = .ok (.iconst 1, 1) := by decide +kernel
theorem dX4_isTold_59 : decode cX4_isTold 59 = .ok (.ireturn, 1) := by decide +kernel
set_option maxRecDepth 20000 in
theorem ggX4_isBack_X4_plain : GoodIn wsX4_isBack wsX4_plain := goodIn_r _ [10, 4, 3, 5, 19, 20, 21, 22, 23, 24, 25, 26, 27, 28] (by decide +kernel) (by decide +kernel)
set_option maxRecDepth 20000 in
theorem gX4_isBack_X4_plain : GoodIn wsX4_isBack (wsV RX4 245 RX4 yX4_plain wsX4_plain) := goodIn_app (goodIn_of _ (by decide +kernel)) ggX4_isBack_X4_plain
set_option maxRecDepth 20000 in
theorem ggX4_isBack_X4_divide_ : GoodIn wsX4_isBack wsX4_divide_ := goodIn_r _ [14, 5, 3, 19, 20, 21, 22, 23, 24, 25, 26, 27, 28] (by decide +kernel) (by decide +kernel)
set_option maxRecDepth 20000 in
theorem gX4_isBack_X4_divide_ : GoodIn wsX4_isBack (wsV RX4 249 RX4 yX4_divide_ wsX4_divide_) := goodIn_app (goodIn_of _ (by decide +kernel)) ggX4_isBack_X4_divide_
set_option maxRecDepth 20000 in
theorem ggX4_isBack_X4_times : GoodIn wsX4_isBack wsX4_times := goodIn_r _ [18, 3, 5, 19, 20, 21, 22, 23, 24, 25, 26, 27, 28] (by decide +kernel) (by decide +kernel)
set_option maxRecDepth 20000 in
theorem gX4_isBack_X4_times : GoodIn wsX4_isBack (wsV RX4 252 RX4 yX4_times wsX4_times) := goodIn_app (goodIn_of _ (by decide +kernel)) ggX4_isBack_X4_times
theorem dX4_isBack_0 : decode cX4_isBack 0 = .ok (.iload 4, 2) := by decide +kernel
theorem dX4_isBack_2 : decode cX4_isBack 2 = .ok (.ifCond .eq 17, 3) := by decide +kernel
theorem dX4_isBack_5 : decode cX4_isBack 5 = .ok (.aload_n 1, 1) := by decide +kernel
theorem dX4_isBack_6 : decode cX4_isBack 6 = .ok (.iload_n 2, 1) := by decide +kernel
theorem dX4_isBack_7 : decode cX4_isBack 7 = .ok (.iconst 1, 1) := by decide +kernel
theorem dX4_isBack_8 : decode cX4_isBack 8 = .ok (.isub, 1) := by decide +kernel
theorem dX4_isBack_9 : decode cX4_isBack 9 = .ok (.iaload, 1) := by decide +kernel
theorem dX4_isBack_10 : decode cX4_isBack 10 = .ok (.ldc 43, 2) := by decide +kernel
theorem dX4_isBack_12 : decode cX4_isBack 12 = .ok (.if_icmp .lt 7, 3) := by decide +kernel
theorem dX4_isBack_15 : decode cX4_isBack 15 = .ok (.iconst 1, 1) := by decide +kernel
theorem dX4_isBack_16 : decode cX4_isBack 16 = .ok (.goto 4, 3) := by decide +kernel
theorem dX4_isBack_19 : decode cX4_isBack 19 = .ok (.iconst 0, 1) := by decide +kernel
theorem dX4_isBack_20 : decode cX4_isBack 20 = .ok (.istore 5, 2) := by decide +kernel
theorem dX4_isBack_22 : decode cX4_isBack 22 = .ok (.aload_n 0, 1) := by decide +kernel
theorem dX4_isBack_23 : decode cX4_isBack 23 = .ok (.aload_n 1, 1) := by decide +kernel
theorem dX4_isBack_24 : decode cX4_isBack 24 = .ok (.iload_n 2, 1) := by decide +kernel
theorem dX4_isBack_25 : decode cX4_isBack 25 = .ok (.iload 5, 2) := by decide +kernel
theorem dX4_isBack_27 : decode cX4_isBack 27 = .ok (.invokevirtual 245, 3) := by decide +kernel
theorem dX4_isBack_30 : decode cX4_isBack 30 = .ok (.iconst 0, 1) := by decide +kernel
theorem dX4_isBack_31 : decode cX4_isBack 31 = .ok (.istore 6, 2) := by decide +kernel
theorem dX4_isBack_33 : decode cX4_isBack 33 = .ok (.iconst 1, 1) := by decide +kernel
theorem dX4_isBack_34 : decode cX4_isBack 34 = .ok (.istore 7, 2) := by decide +kernel
theorem dX4_isBack_36 : decode cX4_isBack 36 = .ok (.iload 7, 2) := by decide +kernel
theorem dX4_isBack_38 : decode cX4_isBack 38 = .ok (.ifCond .le 52, 3) := by decide +kernel
theorem dX4_isBack_41 : decode cX4_isBack 41 = .ok (.aload_n 0, 1) := by decide +kernel
theorem dX4_isBack_42 : decode cX4_isBack 42 = .ok (.getfield 20, 3) := by decide +kernel
theorem dX4_isBack_45 : decode cX4_isBack 45 = .ok (.iload 6, 2) := by decide +kernel
theorem dX4_isBack_47 : decode cX4_isBack 47 = .ok (.aload_n 0, 1) := by decide +kernel
theorem dX4_isBack_48 : decode cX4_isBack 48 = .ok (.iload_n 2, 1) := by decide +kernel
theorem dX4_isBack_49 : decode cX4_isBack 49 = .ok (.iload_n 3, 1) := by decide +kernel
theorem dX4_isBack_50 : decode cX4_isBack 50 = .ok (.invokevirtual 249, 3) := by decide +kernel
theorem dX4_isBack_53 : decode cX4_isBack 53 = .ok (.iastore, 1) := by decide +kernel
theorem dX4_isBack_54 : decode cX4_isBack 54 = .ok (.iinc 6 1, 3) := by decide +kernel
theorem dX4_isBack_57 : decode cX4_isBack 57 = .ok (.iconst 0, 1) := by decide +kernel
theorem dX4_isBack_58 : decode cX4_isBack 58 = .ok (.istore 7, 2) := by decide +kernel
theorem dX4_isBack_60 : decode cX4_isBack 60 = .ok (.iconst 0, 1) := by decide +kernel
theorem dX4_isBack_61 : decode cX4_isBack 61 = .ok (.istore 8, 2) := by decide +kernel
theorem dX4_isBack_63 : decode cX4_isBack 63 = .ok (.iload 8, 2) := by decide +kernel
theorem dX4_isBack_65 : decode cX4_isBack 65 = .ok (.iload_n 2, 1) := by decide +kernel
theorem dX4_isBack_66 : decode cX4_isBack 66 = .ok (.if_icmp .ge 21, 3) := by decide +kernel
theorem dX4_isBack_69 : decode cX4_isBack 69 = .ok (.iload 7, 2) := by decide +kernel
theorem dX4_isBack_71 : decode cX4_isBack 71 = .ok (.aload_n 0, 1) := by decide +kernel
theorem dX4_isBack_72 : decode cX4_isBack 72 = .ok (.getfield 24, 3) := by decide +kernel
theorem dX4_isBack_75 : decode cX4_isBack 75 = .ok (.iload 8, 2) := by decide +kernel
theorem dX4_isBack_77 : decode cX4_isBack 77 = .ok (.iaload, 1) := by decide +kernel
theorem dX4_isBack_78 : decode cX4_isBack 78 = .ok (.iadd, 1) := by decide +kernel
theorem dX4_isBack_79 : decode cX4_isBack 79 = .ok (.istore 7, 2) := by decide +kernel
theorem dX4_isBack_81 : decode cX4_isBack 81 = .ok (.iinc 8 1, 3) := by decide +kernel
theorem dX4_isBack_84 : decode cX4_isBack 84 = .ok (.goto (-21), 3) := by decide +kernel
theorem dX4_isBack_87 : decode cX4_isBack 87 = .ok (.goto (-51), 3) := by decide +kernel
theorem dX4_isBack_90 : decode cX4_isBack 90 = .ok (.iconst 0, 1) := by decide +kernel
theorem dX4_isBack_91 : decode cX4_isBack 91 = .ok (.istore 7, 2) := by decide +kernel
theorem dX4_isBack_93 : decode cX4_isBack 93 = .ok (.iload 6, 2) := by decide +kernel
theorem dX4_isBack_95 : decode cX4_isBack 95 = .ok (.iconst 1, 1) := by decide +kernel
theorem dX4_isBack_96 : decode cX4_isBack 96 = .ok (.isub, 1) := by decide +kernel
theorem dX4_isBack_97 : decode cX4_isBack 97 = .ok (.istore 8, 2) := by decide +kernel
theorem dX4_isBack_99 : decode cX4_isBack 99 = .ok (.iload 8, 2) := by decide +kernel
theorem dX4_isBack_101 : decode cX4_isBack 101 = .ok (.ifCond .lt 27, 3) := by decide +kernel
theorem dX4_isBack_104 : decode cX4_isBack 104 = .ok (.iload 7, 2) := by decide +kernel
theorem dX4_isBack_106 : decode cX4_isBack 106 = .ok (.aload_n 0, 1) := by decide +kernel
theorem dX4_isBack_107 : decode cX4_isBack 107 = .ok (.iload_n 2, 1) := by decide +kernel
theorem dX4_isBack_108 : decode cX4_isBack 108 = .ok (.iload_n 3, 1) := by decide +kernel
theorem dX4_isBack_109 : decode cX4_isBack 109 = .ok (.aload_n 0, 1) := by decide +kernel
theorem dX4_isBack_110 : decode cX4_isBack 110 = .ok (.getfield 20, 3) := by decide +kernel
theorem dX4_isBack_113 : decode cX4_isBack 113 = .ok (.iload 8, 2) := by decide +kernel
theorem dX4_isBack_115 : decode cX4_isBack 115 = .ok (.iaload, 1) := by decide +kernel
theorem dX4_isBack_116 : decode cX4_isBack 116 = .ok (.invokevirtual 252, 3) := by decide +kernel
theorem dX4_isBack_119 : decode cX4_isBack 119 = .ok (.iadd, 1) := by decide +kernel
theorem dX4_isBack_120 : decode cX4_isBack 120 = .ok (.istore 7, 2) := by decide +kernel
theorem dX4_isBack_122 : decode cX4_isBack 122 = .ok (.iinc 8 (-1), 3) := by decide +kernel
theorem dX4_isBack_125 : decode cX4_isBack 125 = .ok (.goto (-26), 3) := by decide +kernel
theorem dX4_isBack_128 : decode cX4_isBack 128 = .ok (.iload 5, 2) := by decide +kernel
theorem dX4_isBack_130 : decode cX4_isBack 130 = .ok (.ifCond .eq 7, 3) := by decide +kernel
theorem dX4_isBack_133 : decode cX4_isBack 133 = .ok (.iconst 1, 1) := by decide +kernel
theorem dX4_isBack_134 : decode cX4_isBack 134 = .ok (.goto 4, 3) := by decide +kernel
theorem dX4_isBack_137 : decode cX4_isBack 137 = .ok (.iconst 0, 1) := by decide +kernel
theorem dX4_isBack_138 : decode cX4_isBack 138 = .ok (.istore 8, 2) := by decide +kernel
theorem dX4_isBack_140 : decode cX4_isBack 140 = .ok (.iconst 0, 1) := by decide +kernel
theorem dX4_isBack_141 : decode cX4_isBack 141 = .ok (.istore 9, 2) := by decide +kernel
theorem dX4_isBack_143 : decode cX4_isBack 143 = .ok (.iload 9, 2) := by decide +kernel
theorem dX4_isBack_145 : decode cX4_isBack 145 = .ok (.iload_n 2, 1) := by decide +kernel
theorem dX4_isBack_146 : decode cX4_isBack 146 = .ok (.if_icmp .ge 60, 3) := by decide +kernel
theorem dX4_isBack_149 : decode cX4_isBack 149 = .ok (.iload 5, 2) := by decide +kernel
theorem dX4_isBack_151 : decode cX4_isBack 151 = .ok (.ifCond .eq 19, 3) := by decide +kernel
theorem dX4_isBack_154 : decode cX4_isBack 154 = .ok (.ldc 53, 2) := by decide +kernel
theorem dX4_isBack_156 : decode cX4_isBack 156 = .ok (.aload_n 0, 1) := by decide +kernel
theorem dX4_isBack_157 : decode cX4_isBack 157 = .ok (.getfield 24, 3) := by decide +kernel
theorem dX4_isBack_160 : decode cX4_isBack 160 = .ok (.iload 9, 2) := by decide +kernel
theorem dX4_isBack_162 : decode cX4_isBack 162 = .ok (.iaload, 1) := by decide +kernel
theorem dX4_isBack_163 : decode cX4_isBack 163 = .ok (.isub, 1) := by decide +kernel
theorem dX4_isBack_164 : decode cX4_isBack 164 = .ok (.iload 8, 2) := by decide +kernel
theorem dX4_isBack_166 : decode cX4_isBack 166 = .ok (.iadd, 1) := by decide +kernel
theorem dX4_isBack_167 : decode cX4_isBack 167 = .ok (.goto 10, 3) := by decide +kernel
theorem dX4_isBack_170 : decode cX4_isBack 170 = .ok (.aload_n 0, 1) := by decide +kernel
theorem dX4_isBack_171 : decode cX4_isBack 171 = .ok (.getfield 24, 3) := by decide +kernel
theorem dX4_isBack_174 : decode cX4_isBack 174 = .ok (.iload 9, 2) := by decide +kernel
theorem dX4_isBack_176 : decode cX4_isBack 176 = .ok (.iaload, 1) := by decide +kernel
theorem dX4_isBack_177 : decode cX4_isBack 177 = .ok (.istore 10, 2) := by decide +kernel
theorem dX4_isBack_179 : decode cX4_isBack 179 = .ok (.iload 10, 2) := by decide +kernel
theorem dX4_isBack_181 : decode cX4_isBack 181 = .ok (.ldc 52, 2) := by decide +kernel
theorem dX4_isBack_183 : decode cX4_isBack 183 = .ok (.idiv, 1) := by decide +kernel
theorem dX4_isBack_184 : decode cX4_isBack 184 = .ok (.istore 8, 2) := by decide +kernel
theorem dX4_isBack_186 : decode cX4_isBack 186 = .ok (.iload 10, 2) := by decide +kernel
theorem dX4_isBack_188 : decode cX4_isBack 188 = .ok (.ldc 52, 2) := by decide +kernel
theorem dX4_isBack_190 : decode cX4_isBack 190 = .ok (.irem, 1) := by decide +kernel
theorem dX4_isBack_191 : decode cX4_isBack 191 = .ok (.aload_n 1, 1) := by decide +kernel
theorem dX4_isBack_192 : decode cX4_isBack 192 = .ok (.iload 9, 2) := by decide +kernel
theorem dX4_isBack_194 : decode cX4_isBack 194 = .ok (.iaload, 1) := by decide +kernel
theorem dX4_isBack_195 : decode cX4_isBack 195 = .ok (.if_icmp .eq 5, 3) := by decide +kernel
theorem dX4_isBack_198 : decode cX4_isBack 198 = .ok (.iconst 0, 1) := by decide +kernel
theorem dX4_isBack_199 : decode cX4_isBack 199 = .ok (.ireturn, 1) := by decide +kernel
theorem dX4_isBack_200 : decode cX4_isBack 200 = .ok (.iinc 9 1, 3) := by decide +kernel
theorem dX4_isBack_203 : decode cX4_isBack 203 = .ok (.goto (-60), 3) := by decide +kernel
theorem dX4_isBack_206 : decode cX4_isBack 206 = .ok (.iload 7, 2) := by decide +kernel
theorem dX4_isBack_208 : decode cX4_isBack 208 = .ok (.ifCond .ne 7, 3) := by decide +kernel
theorem dX4_isBack_211 : decode cX4_isBack 211 = .ok (.iconst 1, 1) := by decide +kernel
theorem dX4_isBack_212 : decode cX4_isBack 212 = .ok (.goto 4, 3) := by decide +kernel
theorem dX4_isBack_215 : decode cX4_isBack 215 = .ok (.iconst 0, 1) := by decide +kernel
theorem dX4_isBack_216 : decode cX4_isBack 216 = .ok (.ireturn, 1) := by decide +kernel
theorem dX4_plain_0 : decode cX4_plain 0 = .ok (.iload_n 3, 1) := by decide +kernel
theorem dX4_plain_1 : decode cX4_plain 1 = .ok (.ifCond .eq 7, 3) := by decide +kernel
theorem dX4_plain_4 : decode cX4_plain 4 = .ok (.iconst 1, 1) := by decide +kernel
theorem dX4_plain_5 : decode cX4_plain 5 = .ok (.goto 4, 3) := by decide +kernel
theorem dX4_plain_8 : decode cX4_plain 8 = .ok (.iconst 0, 1) := by decide +kernel
theorem dX4_plain_9 : decode cX4_plain 9 = .ok (.istore 4, 2) := by decide +kernel
theorem dX4_plain_11 : decode cX4_plain 11 = .ok (.iconst 0, 1) := by decide +kernel
theorem dX4_plain_12 : decode cX4_plain 12 = .ok (.istore 5, 2) := by decide +kernel
theorem dX4_plain_14 : decode cX4_plain 14 = .ok (.iload 5, 2) := by decide +kernel
theorem dX4_plain_16 : decode cX4_plain 16 = .ok (.iload_n 2, 1) := by decide +kernel
theorem dX4_plain_17 : decode cX4_plain 17 = .ok (.if_icmp .ge 51, 3) := by decide +kernel
theorem dX4_plain_20 : decode cX4_plain 20 = .ok (.iload_n 3, 1) := by decide +kernel
theorem dX4_plain_21 : decode cX4_plain 21 = .ok (.ifCond .eq 16, 3) := by decide +kernel
theorem dX4_plain_24 : decode cX4_plain 24 = .ok (.ldc 53, 2) := by decide +kernel
theorem dX4_plain_26 : decode cX4_plain 26 = .ok (.aload_n 1, 1) := by decide +kernel
theorem dX4_plain_27 : decode cX4_plain 27 = .ok (.iload 5, 2) := by decide +kernel
theorem dX4_plain_29 : decode cX4_plain 29 = .ok (.iaload, 1) := by decide +kernel
theorem dX4_plain_30 : decode cX4_plain 30 = .ok (.isub, 1) := by decide +kernel
theorem dX4_plain_31 : decode cX4_plain 31 = .ok (.iload 4, 2) := by decide +kernel
theorem dX4_plain_33 : decode cX4_plain 33 = .ok (.iadd, 1) := by decide +kernel
theorem dX4_plain_34 : decode cX4_plain 34 = .ok (.goto 7, 3) := by decide +kernel
theorem dX4_plain_37 : decode cX4_plain 37 = .ok (.aload_n 1, 1) := by decide +kernel
theorem dX4_plain_38 : decode cX4_plain 38 = .ok (.iload 5, 2) := by decide +kernel
theorem dX4_plain_40 : decode cX4_plain 40 = .ok (.iaload, 1) := by decide +kernel
theorem dX4_plain_41 : decode cX4_plain 41 = .ok (.istore 6, 2) := by decide +kernel
theorem dX4_plain_43 : decode cX4_plain 43 = .ok (.aload_n 0, 1) := by decide +kernel
theorem dX4_plain_44 : decode cX4_plain 44 = .ok (.getfield 24, 3) := by decide +kernel
theorem dX4_plain_47 : decode cX4_plain 47 = .ok (.iload 5, 2) := by decide +kernel
theorem dX4_plain_49 : decode cX4_plain 49 = .ok (.iload 6, 2) := by decide +kernel
theorem dX4_plain_51 : decode cX4_plain 51 = .ok (.ldc 52, 2) := by decide +kernel
theorem dX4_plain_53 : decode cX4_plain 53 = .ok (.irem, 1) := by decide +kernel
theorem dX4_plain_54 : decode cX4_plain 54 = .ok (.iastore, 1) := by decide +kernel
theorem dX4_plain_55 : decode cX4_plain 55 = .ok (.iload 6, 2) := by decide +kernel
theorem dX4_plain_57 : decode cX4_plain 57 = .ok (.ldc 52, 2) := by decide +kernel
theorem dX4_plain_59 : decode cX4_plain 59 = .ok (.idiv, 1) := by decide +kernel
theorem dX4_plain_60 : decode cX4_plain 60 = .ok (.istore 4, 2) := by decide +kernel
theorem dX4_plain_62 : decode cX4_plain 62 = .ok (.iinc 5 1, 3) := by decide +kernel
theorem dX4_plain_65 : decode cX4_plain 65 = .ok (.goto (-51), 3) := by decide +kernel
theorem dX4_plain_68 : decode cX4_plain 68 = .ok (.return_, 1) := by decide +kernel
theorem dX4_divide__0 : decode cX4_divide_ 0 = .ok (.iconst 0, 1) := by decide +kernel
theorem dX4_divide__1 : decode cX4_divide_ 1 = .ok (.istore_n 3, 1) := by decide +kernel
theorem dX4_divide__2 : decode cX4_divide_ 2 = .ok (.iload_n 1, 1) := by decide +kernel
theorem dX4_divide__3 : decode cX4_divide_ 3 = .ok (.iconst 1, 1) := by decide +kernel
theorem dX4_divide__4 : decode cX4_divide_ 4 = .ok (.isub, 1) := by decide +kernel
theorem dX4_divide__5 : decode cX4_divide_ 5 = .ok (.istore 4, 2) := by decide +kernel
theorem dX4_divide__7 : decode cX4_divide_ 7 = .ok (.iload 4, 2) := by decide +kernel
theorem dX4_divide__9 : decode cX4_divide_ 9 = .ok (.ifCond .lt 39, 3) := by decide +kernel
theorem dX4_divide__12 : decode cX4_divide_ 12 = .ok (.iload_n 3, 1) := by decide +kernel
theorem dX4_divide__13 : decode cX4_divide_ 13 = .ok (.ldc 52, 2) := by decide +kernel
theorem dX4_divide__15 : decode cX4_divide_ 15 = .ok (.imul, 1) := by decide +kernel
theorem dX4_divide__16 : decode cX4_divide_ 16 = .ok (.aload_n 0, 1) := by decide +kernel
theorem dX4_divide__17 : decode cX4_divide_ 17 = .ok (.getfield 24, 3) := by decide +kernel
theorem dX4_divide__20 : decode cX4_divide_ 20 = .ok (.iload 4, 2) := by decide +kernel
theorem dX4_divide__22 : decode cX4_divide_ 22 = .ok (.iaload, 1) := by decide +kernel
theorem dX4_divide__23 : decode cX4_divide_ 23 = .ok (.iadd, 1) := by decide +kernel
theorem dX4_divide__24 : decode cX4_divide_ 24 = .ok (.istore 5, 2) := by decide +kernel
theorem dX4_divide__26 : decode cX4_divide_ 26 = .ok (.aload_n 0, 1) := by decide +kernel
theorem dX4_divide__27 : decode cX4_divide_ 27 = .ok (.getfield 24, 3) := by decide +kernel
theorem dX4_divide__30 : decode cX4_divide_ 30 = .ok (.iload 4, 2) := by decide +kernel
theorem dX4_divide__32 : decode cX4_divide_ 32 = .ok (.iload 5, 2) := by decide +kernel
theorem dX4_divide__34 : decode cX4_divide_ 34 = .ok (.iload_n 2, 1) := by decide +kernel
theorem dX4_divide__35 : decode cX4_divide_ 35 = .ok (.idiv, 1) := by decide +kernel
theorem dX4_divide__36 : decode cX4_divide_ 36 = .ok (.iastore, 1) := by decide +kernel
theorem dX4_divide__37 : decode cX4_divide_ 37 = .ok (.iload 5, 2) := by decide +kernel
theorem dX4_divide__39 : decode cX4_divide_ 39 = .ok (.iload_n 2, 1) := by decide +kernel
theorem dX4_divide__40 : decode cX4_divide_ 40 = .ok (.irem, 1) := by decide +kernel
theorem dX4_divide__41 : decode cX4_divide_ 41 = .ok (.istore_n 3, 1) := by decide +kernel
theorem dX4_divide__42 : decode cX4_divide_ 42 = .ok (.iinc 4 (-1), 3) := by decide +kernel
theorem dX4_divide__45 : decode cX4_divide_ 45 = .ok (.goto (-38), 3) := by decide +kernel
theorem dX4_divide__48 : decode cX4_divide_ 48 = .ok (.iload_n 3, 1) := by decide +kernel
theorem dX4_divide__49 : decode cX4_divide_ 49 = .ok (.ireturn, 1) := by decide +kernel
theorem dX4_times_0 : decode cX4_times 0 = .ok (.iload_n 3, 1) := by decide +kernel
theorem dX4_times_1 : decode cX4_times 1 = .ok (.istore 4, 2) := by decide +kernel
theorem dX4_times_3 : decode cX4_times 3 = .ok (.iconst 0, 1) := by decide +kernel
theorem dX4_times_4 : decode cX4_times 4 = .ok (.istore 5, 2) := by decide +kernel
theorem dX4_times_6 : decode cX4_times 6 = .ok (.iload 5, 2) := by decide +kernel
theorem dX4_times_8 : decode cX4_times 8 = .ok (.iload_n 1, 1) := by decide +kernel
theorem dX4_times_9 : decode cX4_times 9 = .ok (.if_icmp .ge 42, 3) := by decide +kernel
theorem dX4_times_12 : decode cX4_times 12 = .ok (.aload_n 0, 1) := by decide +kernel
theorem dX4_times_13 : decode cX4_times 13 = .ok (.getfield 24, 3) := by decide +kernel
theorem dX4_times_16 : decode cX4_times 16 = .ok (.iload 5, 2) := by decide +kernel
theorem dX4_times_18 : decode cX4_times 18 = .ok (.iaload, 1) := by decide +kernel
theorem dX4_times_19 : decode cX4_times 19 = .ok (.iload_n 2, 1) := by decide +kernel
theorem dX4_times_20 : decode cX4_times 20 = .ok (.imul, 1) := by decide +kernel
theorem dX4_times_21 : decode cX4_times 21 = .ok (.iload 4, 2) := by decide +kernel
theorem dX4_times_23 : decode cX4_times 23 = .ok (.iadd, 1) := by decide +kernel
theorem dX4_times_24 : decode cX4_times 24 = .ok (.istore 6, 2) := by decide +kernel
theorem dX4_times_26 : decode cX4_times 26 = .ok (.aload_n 0, 1) := by decide +kernel
theorem dX4_times_27 : decode cX4_times 27 = .ok (.getfield 24, 3) := by decide +kernel
theorem dX4_times_30 : decode cX4_times 30 = .ok (.iload 5, 2) := by decide +kernel
theorem dX4_times_32 : decode cX4_times 32 = .ok (.iload 6, 2) := by decide +kernel
theorem dX4_times_34 : decode cX4_times 34 = .ok (.ldc 52, 2) := by decide +kernel
theorem dX4_times_36 : decode cX4_times 36 = .ok (.irem, 1) := by decide +kernel
theorem dX4_times_37 : decode cX4_times 37 = .ok (.iastore, 1) := by decide +kernel
theorem dX4_times_38 : decode cX4_times 38 = .ok (.iload 6, 2) := by decide +kernel
theorem dX4_times_40 : decode cX4_times 40 = .ok (.ldc 52, 2) := by decide +kernel
theorem dX4_times_42 : decode cX4_times 42 = .ok (.idiv, 1) := by decide +kernel
theorem dX4_times_43 : decode cX4_times 43 = .ok (.istore 4, 2) := by decide +kernel
theorem dX4_times_45 : decode cX4_times 45 = .ok (.iinc 5 1, 3) := by decide +kernel
theorem dX4_times_48 : decode cX4_times 48 = .ok (.goto (-42), 3) := by decide +kernel
theorem dX4_times_51 : decode cX4_times 51 = .ok (.iload 4, 2) := by decide +kernel
theorem dX4_times_53 : decode cX4_times 53 = .ok (.ireturn, 1) := by decide +kernel
set_option maxRecDepth 20000 in
theorem ggX4_isDivided_X4_isZero : GoodIn wsX4_isDivided wsX4_isZero := goodIn_r _ [5] (by decide +kernel) (by decide +kernel)
set_option maxRecDepth 20000 in
theorem gX4_isDivided_X4_isZero : GoodIn wsX4_isDivided (va_wsS RX4 93 yX4_isZero wsX4_isZero) := goodIn_app (goodIn_of _ (by decide +kernel)) ggX4_isDivided_X4_isZero
set_option maxRecDepth 20000 in
theorem ggX4_isDivided_X4_divided : GoodIn wsX4_isDivided wsX4_divided := goodIn_r _ [8, 9, 1, 10, 11, 4, 12, 13, 14, 15, 16, 17, 18, 19, 20, 21, 22, 23, 24, 25, 26, 27, 28, 29, 30, 31, 32, 33, 34, 35, 36] (by decide +kernel) (by decide +kernel)
set_option maxRecDepth 20000 in
theorem gX4_isDivided_X4_divided : GoodIn wsX4_isDivided (va_wsS RX4 200 yX4_divided wsX4_divided) := goodIn_app (goodIn_of _ (by decide +kernel)) ggX4_isDivided_X4_divided
set_option maxRecDepth 20000 in
theorem ggX4_isDivided_X4_bits : GoodIn wsX4_isDivided wsX4_bits := goodIn_r _ [12] (by decide +kernel) (by decide +kernel)
set_option maxRecDepth 20000 in
theorem gX4_isDivided_X4_bits : GoodIn wsX4_isDivided (va_wsS RX4 66 yX4_bits wsX4_bits) := goodIn_app (goodIn_of _ (by decide +kernel)) ggX4_isDivided_X4_bits
set_option maxRecDepth 20000 in
theorem ggX4_isDivided_X4_sum : GoodIn wsX4_isDivided wsX4_sum := goodIn_r _ [19, 1, 20] (by decide +kernel) (by decide +kernel)
set_option maxRecDepth 20000 in
theorem gX4_isDivided_X4_sum : GoodIn wsX4_isDivided (va_wsS RX4 70 yX4_sum wsX4_sum) := goodIn_app (goodIn_of _ (by decide +kernel)) ggX4_isDivided_X4_sum
set_option maxRecDepth 20000 in
theorem ggX4_isDivided_X4_bit : GoodIn wsX4_isDivided wsX4_bit := goodIn_r _ [23, 24, 25, 4, 26] (by decide +kernel) (by decide +kernel)
set_option maxRecDepth 20000 in
theorem gX4_isDivided_X4_bit : GoodIn wsX4_isDivided (va_wsS RX4 39 yX4_bit wsX4_bit) := goodIn_app (goodIn_of _ (by decide +kernel)) ggX4_isDivided_X4_bit
set_option maxRecDepth 20000 in
theorem ggX4_isDivided_X4_compare : GoodIn wsX4_isDivided wsX4_compare := goodIn_r _ [29] (by decide +kernel) (by decide +kernel)
set_option maxRecDepth 20000 in
theorem gX4_isDivided_X4_compare : GoodIn wsX4_isDivided (va_wsS RX4 48 yX4_compare wsX4_compare) := goodIn_app (goodIn_of _ (by decide +kernel)) ggX4_isDivided_X4_compare
set_option maxRecDepth 20000 in
theorem ggX4_isDivided_X4_isSame : GoodIn wsX4_isDivided wsX4_isSame := goodIn_r _ [39] (by decide +kernel) (by decide +kernel)
set_option maxRecDepth 20000 in
theorem gX4_isDivided_X4_isSame : GoodIn wsX4_isDivided (va_wsS RX4 62 yX4_isSame wsX4_isSame) := goodIn_app (goodIn_of _ (by decide +kernel)) ggX4_isDivided_X4_isSame
theorem dX4_isDivided_0 : decode cX4_isDivided 0 = .ok (.aload_n 2, 1) := by decide +kernel
theorem dX4_isDivided_1 : decode cX4_isDivided 1 = .ok (.invokestatic 93, 3) := by decide +kernel
theorem dX4_isDivided_4 : decode cX4_isDivided 4 = .ok (.ifCond .eq 5, 3) := by decide +kernel
theorem dX4_isDivided_7 : decode cX4_isDivided 7 = .ok (.iconst 1, 1) := by decide +kernel
theorem dX4_isDivided_8 : decode cX4_isDivided 8 = .ok (.ireturn, 1) := by decide +kernel
theorem dX4_isDivided_9 : decode cX4_isDivided 9 = .ok (.aload_n 1, 1) := by decide +kernel
theorem dX4_isDivided_10 : decode cX4_isDivided 10 = .ok (.aload_n 2, 1) := by decide +kernel
theorem dX4_isDivided_11 : decode cX4_isDivided 11 = .ok (.invokestatic 200, 3) := by decide +kernel
theorem dX4_isDivided_14 : decode cX4_isDivided 14 = .ok (.astore_n 3, 1) := by decide +kernel
theorem dX4_isDivided_15 : decode cX4_isDivided 15 = .ok (.aload_n 1, 1) := by decide +kernel
theorem dX4_isDivided_16 : decode cX4_isDivided 16 = .ok (.arraylength, 1) := by decide +kernel
theorem dX4_isDivided_17 : decode cX4_isDivided 17 = .ok (.newarray .int, 2) := by decide +kernel
theorem dX4_isDivided_19 : decode cX4_isDivided 19 = .ok (.astore 4, 2) := by decide +kernel
theorem dX4_isDivided_21 : decode cX4_isDivided 21 = .ok (.aload_n 1, 1) := by decide +kernel
theorem dX4_isDivided_22 : decode cX4_isDivided 22 = .ok (.invokestatic 66, 3) := by decide +kernel
theorem dX4_isDivided_25 : decode cX4_isDivided 25 = .ok (.iconst 1, 1) := by decide +kernel
theorem dX4_isDivided_26 : decode cX4_isDivided 26 = .ok (.isub, 1) := by decide +kernel
theorem dX4_isDivided_27 : decode cX4_isDivided 27 = .ok (.istore 5, 2) := by decide +kernel
theorem dX4_isDivided_29 : decode cX4_isDivided 29 = .ok (.iload 5, 2) := by decide +kernel
theorem dX4_isDivided_31 : decode cX4_isDivided 31 = .ok (.ifCond .lt 38, 3) := by decide +kernel
theorem dX4_isDivided_34 : decode cX4_isDivided 34 = .ok (.aload 4, 2) := by decide +kernel
theorem dX4_isDivided_36 : decode cX4_isDivided 36 = .ok (.aload 4, 2) := by decide +kernel
theorem dX4_isDivided_38 : decode cX4_isDivided 38 = .ok (.invokestatic 70, 3) := by decide +kernel
theorem dX4_isDivided_41 : decode cX4_isDivided 41 = .ok (.astore 4, 2) := by decide +kernel
theorem dX4_isDivided_43 : decode cX4_isDivided 43 = .ok (.aload_n 3, 1) := by decide +kernel
theorem dX4_isDivided_44 : decode cX4_isDivided 44 = .ok (.iconst 0, 1) := by decide +kernel
theorem dX4_isDivided_45 : decode cX4_isDivided 45 = .ok (.aaload, 1) := by decide +kernel
theorem dX4_isDivided_46 : decode cX4_isDivided 46 = .ok (.iload 5, 2) := by decide +kernel
theorem dX4_isDivided_48 : decode cX4_isDivided 48 = .ok (.invokestatic 39, 3) := by decide +kernel
theorem dX4_isDivided_51 : decode cX4_isDivided 51 = .ok (.iconst 1, 1) := by decide +kernel
theorem dX4_isDivided_52 : decode cX4_isDivided 52 = .ok (.if_icmp .ne 11, 3) := by decide +kernel
theorem dX4_isDivided_55 : decode cX4_isDivided 55 = .ok (.aload 4, 2) := by decide +kernel
theorem dX4_isDivided_57 : decode cX4_isDivided 57 = .ok (.aload_n 2, 1) := by decide +kernel
theorem dX4_isDivided_58 : decode cX4_isDivided 58 = .ok (.invokestatic 70, 3) := by decide +kernel
theorem dX4_isDivided_61 : decode cX4_isDivided 61 = .ok (.astore 4, 2) := by decide +kernel
theorem dX4_isDivided_63 : decode cX4_isDivided 63 = .ok (.iinc 5 (-1), 3) := by decide +kernel
theorem dX4_isDivided_66 : decode cX4_isDivided 66 = .ok (.goto (-37), 3) := by decide +kernel
theorem dX4_isDivided_69 : decode cX4_isDivided 69 = .ok (.aload_n 3, 1) := by decide +kernel
theorem dX4_isDivided_70 : decode cX4_isDivided 70 = .ok (.iconst 1, 1) := by decide +kernel
theorem dX4_isDivided_71 : decode cX4_isDivided 71 = .ok (.aaload, 1) := by decide +kernel
theorem dX4_isDivided_72 : decode cX4_isDivided 72 = .ok (.aload_n 2, 1) := by decide +kernel
theorem dX4_isDivided_73 : decode cX4_isDivided 73 = .ok (.invokestatic 48, 3) := by decide +kernel
theorem dX4_isDivided_76 : decode cX4_isDivided 76 = .ok (.ifCond .ge 22, 3) := by decide +kernel
theorem dX4_isDivided_79 : decode cX4_isDivided 79 = .ok (.aload 4, 2) := by decide +kernel
theorem dX4_isDivided_81 : decode cX4_isDivided 81 = .ok (.aload_n 3, 1) := by decide +kernel
theorem dX4_isDivided_82 : decode cX4_isDivided 82 = .ok (.iconst 1, 1) := by decide +kernel
theorem dX4_isDivided_83 : decode cX4_isDivided 83 = .ok (.aaload, 1) := by decide +kernel
theorem dX4_isDivided_84 : decode cX4_isDivided 84 = .ok (.invokestatic 70, 3) := by decide +kernel
theorem dX4_isDivided_87 : decode cX4_isDivided 87 = .ok (.aload_n 1, 1) := by decide +kernel
theorem dX4_isDivided_88 : decode cX4_isDivided 88 = .ok (.invokestatic 62, 3) := by decide +kernel
theorem dX4_isDivided_91 : decode cX4_isDivided 91 = .ok (.ifCond .eq 7, 3) := by decide +kernel
theorem dX4_isDivided_94 : decode cX4_isDivided 94 = .ok (.iconst 1, 1) := by decide +kernel
theorem dX4_isDivided_95 : decode cX4_isDivided 95 = .ok (.goto 4, 3) := by decide +kernel
theorem dX4_isDivided_98 : decode cX4_isDivided 98 = .ok (.iconst 0, 1) := by decide +kernel
theorem dX4_isDivided_99 : decode cX4_isDivided 99 = .ok (.ireturn, 1) := by decide +kernel
set_option maxRecDepth 20000 in
theorem ggX4_isSoundNow_X4_isTold : GoodIn wsX4_isSoundNow wsX4_isTold := goodIn_r _ [7, 1, 8, 9, 6, 10, 11, 12, 13, 14, 15, 16, 17, 18, 19, 20, 21, 22, 23, 24, 25, 26, 27, 28, 29, 30, 31, 82, 83, 84, 85, 86, 87, 88, 89, 90, 91] (by decide +kernel) (by decide +kernel)
set_option maxRecDepth 20000 in
theorem gX4_isSoundNow_X4_isTold : GoodIn wsX4_isSoundNow (wsV RX4 256 RX4 yX4_isTold wsX4_isTold) := goodIn_app (goodIn_of _ (by decide +kernel)) ggX4_isSoundNow_X4_isTold
set_option maxRecDepth 20000 in
theorem ggX4_isSoundNow_X4_isDivided : GoodIn wsX4_isSoundNow wsX4_isDivided := goodIn_r _ [35, 2, 36, 37, 6, 38, 39, 40, 41, 42, 43, 44, 45, 46, 47, 48, 15, 49, 50, 51, 19, 52, 53, 54, 55, 56, 57, 58, 59, 60, 61, 62, 63, 18, 64, 65, 66, 67, 68, 69] (by decide +kernel) (by decide +kernel)
set_option maxRecDepth 20000 in
theorem gX4_isSoundNow_X4_isDivided : GoodIn wsX4_isSoundNow (wsV RX4 259 RX4 yX4_isDivided wsX4_isDivided) := goodIn_app (goodIn_of _ (by decide +kernel)) ggX4_isSoundNow_X4_isDivided
set_option maxRecDepth 20000 in
theorem ggX4_isSoundNow_X4_turned : GoodIn wsX4_isSoundNow wsX4_turned := goodIn_r _ [72, 2, 43, 44, 6, 45, 52, 53, 54, 55, 56, 57, 64, 65, 66] (by decide +kernel) (by decide +kernel)
set_option maxRecDepth 20000 in
theorem gX4_isSoundNow_X4_turned : GoodIn wsX4_isSoundNow (va_wsS RX4 204 yX4_turned wsX4_turned) := goodIn_app (goodIn_of _ (by decide +kernel)) ggX4_isSoundNow_X4_turned
set_option maxRecDepth 20000 in
theorem ggX4_isSoundNow_X4_isSame : GoodIn wsX4_isSoundNow wsX4_isSame := goodIn_r _ [69] (by decide +kernel) (by decide +kernel)
set_option maxRecDepth 20000 in
theorem gX4_isSoundNow_X4_isSame : GoodIn wsX4_isSoundNow (va_wsS RX4 62 yX4_isSame wsX4_isSame) := goodIn_app (goodIn_of _ (by decide +kernel)) ggX4_isSoundNow_X4_isSame
set_option maxRecDepth 20000 in
theorem ggX4_isSoundNow_X4_backward : GoodIn wsX4_isSoundNow wsX4_backward := goodIn_r _ [75, 2, 43, 44, 6, 45, 52, 53, 54, 55, 56, 57, 64, 65, 66] (by decide +kernel) (by decide +kernel)
set_option maxRecDepth 20000 in
theorem gX4_isSoundNow_X4_backward : GoodIn wsX4_isSoundNow (va_wsS RX4 207 yX4_backward wsX4_backward) := goodIn_app (goodIn_of _ (by decide +kernel)) ggX4_isSoundNow_X4_backward
set_option maxRecDepth 20000 in
theorem ggX4_isSoundNow_X4_count : GoodIn wsX4_isSoundNow wsX4_count := goodIn_r _ [78, 43, 44, 6, 45, 52, 53, 54, 55, 56, 57] (by decide +kernel) (by decide +kernel)
set_option maxRecDepth 20000 in
theorem gX4_isSoundNow_X4_count : GoodIn wsX4_isSoundNow (va_wsS RX4 154 yX4_count wsX4_count) := goodIn_app (goodIn_of _ (by decide +kernel)) ggX4_isSoundNow_X4_count
set_option maxRecDepth 20000 in
theorem ggX4_isSoundNow_X4_part : GoodIn wsX4_isSoundNow wsX4_part := goodIn_r _ [81, 2] (by decide +kernel) (by decide +kernel)
set_option maxRecDepth 20000 in
theorem gX4_isSoundNow_X4_part : GoodIn wsX4_isSoundNow (va_wsS RX4 54 yX4_part wsX4_part) := goodIn_app (goodIn_of _ (by decide +kernel)) ggX4_isSoundNow_X4_part
theorem dX4_isSoundNow_0 : decode cX4_isSoundNow 0 = .ok (.iconst 0, 1) := by decide +kernel
theorem dX4_isSoundNow_1 : decode cX4_isSoundNow 1 = .ok (.istore_n 1, 1) := by decide +kernel
theorem dX4_isSoundNow_2 : decode cX4_isSoundNow 2 = .ok (.iload_n 1, 1) := by decide +kernel
theorem dX4_isSoundNow_3 : decode cX4_isSoundNow 3 = .ok (.bipush 8, 2) := by decide +kernel
theorem dX4_isSoundNow_5 : decode cX4_isSoundNow 5 = .ok (.if_icmp .ge 145, 3) := by decide +kernel
theorem dX4_isSoundNow_8 : decode cX4_isSoundNow 8 = .ok (.aload_n 0, 1) := by decide +kernel
theorem dX4_isSoundNow_9 : decode cX4_isSoundNow 9 = .ok (.getfield 11, 3) := by decide +kernel
theorem dX4_isSoundNow_12 : decode cX4_isSoundNow 12 = .ok (.iload_n 1, 1) := by decide +kernel
theorem dX4_isSoundNow_13 : decode cX4_isSoundNow 13 = .ok (.aaload, 1) := by decide +kernel
theorem dX4_isSoundNow_14 : decode cX4_isSoundNow 14 = .ok (.astore_n 2, 1) := by decide +kernel
theorem dX4_isSoundNow_15 : decode cX4_isSoundNow 15 = .ok (.aload_n 0, 1) := by decide +kernel
theorem dX4_isSoundNow_16 : decode cX4_isSoundNow 16 = .ok (.iload_n 1, 1) := by decide +kernel
theorem dX4_isSoundNow_17 : decode cX4_isSoundNow 17 = .ok (.invokevirtual 256, 3) := by decide +kernel
theorem dX4_isSoundNow_20 : decode cX4_isSoundNow 20 = .ok (.ifCond .eq 39, 3) := by decide +kernel
theorem dX4_isSoundNow_23 : decode cX4_isSoundNow 23 = .ok (.aload_n 0, 1) := by decide +kernel
theorem dX4_isSoundNow_24 : decode cX4_isSoundNow 24 = .ok (.aload_n 2, 1) := by decide +kernel
theorem dX4_isSoundNow_25 : decode cX4_isSoundNow 25 = .ok (.aload_n 0, 1) := by decide +kernel
theorem dX4_isSoundNow_26 : decode cX4_isSoundNow 26 = .ok (.getfield 11, 3) := by decide +kernel
theorem dX4_isSoundNow_29 : decode cX4_isSoundNow 29 = .ok (.iload_n 1, 1) := by decide +kernel
theorem dX4_isSoundNow_30 : decode cX4_isSoundNow 30 = .ok (.iconst 1, 1) := by decide +kernel
theorem dX4_isSoundNow_31 : decode cX4_isSoundNow 31 = .ok (.iadd, 1) := by decide +kernel
theorem dX4_isSoundNow_32 : decode cX4_isSoundNow 32 = .ok (.bipush 8, 2) := by decide +kernel
theorem dX4_isSoundNow_34 : decode cX4_isSoundNow 34 = .ok (.irem, 1) := by decide +kernel
theorem dX4_isSoundNow_35 : decode cX4_isSoundNow 35 = .ok (.aaload, 1) := by decide +kernel
theorem dX4_isSoundNow_36 : decode cX4_isSoundNow 36 = .ok (.invokevirtual 259, 3) := by decide +kernel
theorem dX4_isSoundNow_39 : decode cX4_isSoundNow 39 = .ok (.ifCond .eq 20, 3) := by decide +kernel
theorem dX4_isSoundNow_42 : decode cX4_isSoundNow 42 = .ok (.aload_n 2, 1) := by decide +kernel
theorem dX4_isSoundNow_43 : decode cX4_isSoundNow 43 = .ok (.iconst 5, 1) := by decide +kernel
theorem dX4_isSoundNow_44 : decode cX4_isSoundNow 44 = .ok (.invokestatic 204, 3) := by decide +kernel
theorem dX4_isSoundNow_47 : decode cX4_isSoundNow 47 = .ok (.bipush (-5), 2) := by decide +kernel
theorem dX4_isSoundNow_49 : decode cX4_isSoundNow 49 = .ok (.invokestatic 204, 3) := by decide +kernel
theorem dX4_isSoundNow_52 : decode cX4_isSoundNow 52 = .ok (.aload_n 2, 1) := by decide +kernel
theorem dX4_isSoundNow_53 : decode cX4_isSoundNow 53 = .ok (.invokestatic 62, 3) := by decide +kernel
theorem dX4_isSoundNow_56 : decode cX4_isSoundNow 56 = .ok (.ifCond .ne 5, 3) := by decide +kernel
theorem dX4_isSoundNow_59 : decode cX4_isSoundNow 59 = .ok (.iconst 0, 1) := by decide +kernel
theorem dX4_isSoundNow_60 : decode cX4_isSoundNow 60 = .ok (.ireturn, 1) := by decide +kernel
theorem dX4_isSoundNow_61 : decode cX4_isSoundNow 61 = .ok (.iconst 0, 1) := by decide +kernel
theorem dX4_isSoundNow_62 : decode cX4_isSoundNow 62 = .ok (.istore_n 3, 1) := by decide +kernel
theorem dX4_isSoundNow_63 : decode cX4_isSoundNow 63 = .ok (.iload_n 3, 1) := by decide +kernel
theorem dX4_isSoundNow_64 : decode cX4_isSoundNow 64 = .ok (.iconst 2, 1) := by decide +kernel
theorem dX4_isSoundNow_65 : decode cX4_isSoundNow 65 = .ok (.if_icmp .ge 43, 3) := by decide +kernel
theorem dX4_isSoundNow_68 : decode cX4_isSoundNow 68 = .ok (.aload_n 2, 1) := by decide +kernel
theorem dX4_isSoundNow_69 : decode cX4_isSoundNow 69 = .ok (.iload_n 3, 1) := by decide +kernel
theorem dX4_isSoundNow_70 : decode cX4_isSoundNow 70 = .ok (.ifCond .ne 7, 3) := by decide +kernel
theorem dX4_isSoundNow_73 : decode cX4_isSoundNow 73 = .ok (.iconst 1, 1) := by decide +kernel
theorem dX4_isSoundNow_74 : decode cX4_isSoundNow 74 = .ok (.goto 4, 3) := by decide +kernel
theorem dX4_isSoundNow_77 : decode cX4_isSoundNow 77 = .ok (.iconst 0, 1) := by decide +kernel
theorem dX4_isSoundNow_78 : decode cX4_isSoundNow 78 = .ok (.invokestatic 207, 3) := by decide +kernel
theorem dX4_isSoundNow_81 : decode cX4_isSoundNow 81 = .ok (.iload_n 3, 1) := by decide +kernel
theorem dX4_isSoundNow_82 : decode cX4_isSoundNow 82 = .ok (.ifCond .ne 7, 3) := by decide +kernel
theorem dX4_isSoundNow_85 : decode cX4_isSoundNow 85 = .ok (.iconst 1, 1) := by decide +kernel
theorem dX4_isSoundNow_86 : decode cX4_isSoundNow 86 = .ok (.goto 4, 3) := by decide +kernel
theorem dX4_isSoundNow_89 : decode cX4_isSoundNow 89 = .ok (.iconst 0, 1) := by decide +kernel
theorem dX4_isSoundNow_90 : decode cX4_isSoundNow 90 = .ok (.invokestatic 207, 3) := by decide +kernel
theorem dX4_isSoundNow_93 : decode cX4_isSoundNow 93 = .ok (.aload_n 2, 1) := by decide +kernel
theorem dX4_isSoundNow_94 : decode cX4_isSoundNow 94 = .ok (.invokestatic 62, 3) := by decide +kernel
theorem dX4_isSoundNow_97 : decode cX4_isSoundNow 97 = .ok (.ifCond .ne 5, 3) := by decide +kernel
theorem dX4_isSoundNow_100 : decode cX4_isSoundNow 100 = .ok (.iconst 0, 1) := by decide +kernel
theorem dX4_isSoundNow_101 : decode cX4_isSoundNow 101 = .ok (.ireturn, 1) := by decide +kernel
theorem dX4_isSoundNow_102 : decode cX4_isSoundNow 102 = .ok (.iinc 3 1, 3) := by decide +kernel
theorem dX4_isSoundNow_105 : decode cX4_isSoundNow 105 = .ok (.goto (-42), 3) := by decide +kernel
theorem dX4_isSoundNow_108 : decode cX4_isSoundNow 108 = .ok (.aload_n 2, 1) := by decide +kernel
theorem dX4_isSoundNow_109 : decode cX4_isSoundNow 109 = .ok (.invokestatic 154, 3) := by decide +kernel
theorem dX4_isSoundNow_112 : decode cX4_isSoundNow 112 = .ok (.aload_n 2, 1) := by decide +kernel
theorem dX4_isSoundNow_113 : decode cX4_isSoundNow 113 = .ok (.iconst 2, 1) := by decide +kernel
theorem dX4_isSoundNow_114 : decode cX4_isSoundNow 114 = .ok (.invokestatic 54, 3) := by decide +kernel
theorem dX4_isSoundNow_117 : decode cX4_isSoundNow 117 = .ok (.invokestatic 154, 3) := by decide +kernel
theorem dX4_isSoundNow_120 : decode cX4_isSoundNow 120 = .ok (.iconst 2, 1) := by decide +kernel
theorem dX4_isSoundNow_121 : decode cX4_isSoundNow 121 = .ok (.newarray .int, 2) := by decide +kernel
theorem dX4_isSoundNow_123 : decode cX4_isSoundNow 123 = .ok (.dup, 1) := by decide +kernel
theorem dX4_isSoundNow_124 : decode cX4_isSoundNow 124 = .ok (.iconst 0, 1) := by decide +kernel
theorem dX4_isSoundNow_125 : decode cX4_isSoundNow 125 = .ok (.aload_n 2, 1) := by decide +kernel
theorem dX4_isSoundNow_126 : decode cX4_isSoundNow 126 = .ok (.iconst 2, 1) := by decide +kernel
theorem dX4_isSoundNow_127 : decode cX4_isSoundNow 127 = .ok (.iaload, 1) := by decide +kernel
theorem dX4_isSoundNow_128 : decode cX4_isSoundNow 128 = .ok (.iastore, 1) := by decide +kernel
theorem dX4_isSoundNow_129 : decode cX4_isSoundNow 129 = .ok (.dup, 1) := by decide +kernel
theorem dX4_isSoundNow_130 : decode cX4_isSoundNow 130 = .ok (.iconst 1, 1) := by decide +kernel
theorem dX4_isSoundNow_131 : decode cX4_isSoundNow 131 = .ok (.aload_n 2, 1) := by decide +kernel
theorem dX4_isSoundNow_132 : decode cX4_isSoundNow 132 = .ok (.iconst 3, 1) := by decide +kernel
theorem dX4_isSoundNow_133 : decode cX4_isSoundNow 133 = .ok (.iaload, 1) := by decide +kernel
theorem dX4_isSoundNow_134 : decode cX4_isSoundNow 134 = .ok (.iastore, 1) := by decide +kernel
theorem dX4_isSoundNow_135 : decode cX4_isSoundNow 135 = .ok (.invokestatic 154, 3) := by decide +kernel
theorem dX4_isSoundNow_138 : decode cX4_isSoundNow 138 = .ok (.iadd, 1) := by decide +kernel
theorem dX4_isSoundNow_139 : decode cX4_isSoundNow 139 = .ok (.if_icmp .eq 5, 3) := by decide +kernel
theorem dX4_isSoundNow_142 : decode cX4_isSoundNow 142 = .ok (.iconst 0, 1) := by decide +kernel
theorem dX4_isSoundNow_143 : decode cX4_isSoundNow 143 = .ok (.ireturn, 1) := by decide +kernel
theorem dX4_isSoundNow_144 : decode cX4_isSoundNow 144 = .ok (.iinc 1 1, 3) := by decide +kernel
theorem dX4_isSoundNow_147 : decode cX4_isSoundNow 147 = .ok (.goto (-145), 3) := by decide +kernel
theorem dX4_isSoundNow_150 : decode cX4_isSoundNow 150 = .ok (.iconst 1, 1) := by decide +kernel
theorem dX4_isSoundNow_151 : decode cX4_isSoundNow 151 = .ok (.ireturn, 1) := by decide +kernel
set_option maxRecDepth 20000 in
theorem ggX4_isSound_X4_isSoundNow : GoodIn wsX4_isSound wsX4_isSoundNow := goodIn_r _ [6, 7, 8, 9, 10, 11, 5, 12, 13, 14, 15, 16, 17, 18, 19, 20, 21, 22, 23, 24, 25, 26, 27, 28, 29, 30, 31, 32, 33, 34, 35, 36, 37, 38, 39, 40, 41, 42, 43, 44, 45, 46, 47, 48, 49, 50, 51, 52, 53, 54, 55, 56, 57, 58, 59, 60, 61, 62, 63, 64, 65, 66, 67, 68, 69, 70, 71, 72, 73, 74, 75, 76, 77, 78, 79, 80, 81, 82, 83, 84, 85, 86, 87, 88, 89, 90, 91, 92, 93, 94, 95, 96] (by decide +kernel) (by decide +kernel)
set_option maxRecDepth 20000 in
theorem gX4_isSound_X4_isSoundNow : GoodIn wsX4_isSound (wsV RX4 262 RX4 yX4_isSoundNow wsX4_isSoundNow) := goodIn_app (goodIn_of _ (by decide +kernel)) ggX4_isSound_X4_isSoundNow
theorem dX4_isSound_0 : decode cX4_isSound 0 = .ok (.aload_n 0, 1) := by decide +kernel
theorem dX4_isSound_1 : decode cX4_isSound 1 = .ok (.iconst 0, 1) := by decide +kernel
theorem dX4_isSound_2 : decode cX4_isSound 2 = .ok (.putfield 27, 3) := by decide +kernel
theorem dX4_isSound_5 : decode cX4_isSound 5 = .ok (.aload_n 0, 1) := by decide +kernel
theorem dX4_isSound_6 : decode cX4_isSound 6 = .ok (.invokevirtual 262, 3) := by decide +kernel
theorem dX4_isSound_9 : decode cX4_isSound 9 = .ok (.ireturn, 1) := by decide +kernel
theorem dX4_add_0 : decode cX4_add 0 = .ok (.aload_n 0, 1) := by decide +kernel
theorem dX4_add_1 : decode cX4_add 1 = .ok (.aload_n 0, 1) := by decide +kernel
theorem dX4_add_2 : decode cX4_add 2 = .ok (.getfield 265, 3) := by decide +kernel
theorem dX4_add_5 : decode cX4_add 5 = .ok (.ldc2_w 268, 3) := by decide +kernel
theorem dX4_add_8 : decode cX4_add 8 = .ok (.lmul, 1) := by decide +kernel
theorem dX4_add_9 : decode cX4_add 9 = .ok (.lload_n 1, 1) := by decide +kernel
theorem dX4_add_10 : decode cX4_add 10 = .ok (.ladd, 1) := by decide +kernel
theorem dX4_add_11 : decode cX4_add 11 = .ok (.putfield 265, 3) := by decide +kernel
theorem dX4_add_14 : decode cX4_add 14 = .ok (.return_, 1) := by decide +kernel
set_option maxRecDepth 20000 in
theorem ggX4_digest_X4_benchNow : GoodIn wsX4_digest wsX4_benchNow := goodIn_r _ [10, 5, 11, 12, 13, 14, 15, 16, 17, 18, 19, 20, 21, 22, 23, 24, 25, 26, 419, 420, 421, 422, 423, 424, 425, 426, 427, 428, 429, 430, 431, 432] (by decide +kernel) (by decide +kernel)
set_option maxRecDepth 20000 in
theorem gX4_digest_X4_benchNow : GoodIn wsX4_digest (wsV RX4 231 RX4 yX4_benchNow wsX4_benchNow) := goodIn_app (goodIn_of _ (by decide +kernel)) ggX4_digest_X4_benchNow
set_option maxRecDepth 20000 in
theorem ggX4_digest_X4_add : GoodIn wsX4_digest wsX4_add := goodIn_r _ [30, 3, 31, 419, 420, 421, 422, 423, 424, 425, 426, 427, 428] (by decide +kernel) (by decide +kernel)
set_option maxRecDepth 20000 in
theorem gX4_digest_X4_add : GoodIn wsX4_digest (wsV RX4 272 RX4 yX4_add wsX4_add) := goodIn_app (goodIn_of _ (by decide +kernel)) ggX4_digest_X4_add
set_option maxRecDepth 20000 in
theorem ggX4_digest_X4_half : GoodIn wsX4_digest wsX4_half := goodIn_r _ [34, 35, 36] (by decide +kernel) (by decide +kernel)
set_option maxRecDepth 20000 in
theorem gX4_digest_X4_half : GoodIn wsX4_digest (va_wsS RX4 221 yX4_half wsX4_half) := goodIn_app (goodIn_of _ (by decide +kernel)) ggX4_digest_X4_half
set_option maxRecDepth 20000 in
theorem ggX4_digest_X4_countNow : GoodIn wsX4_digest wsX4_countNow := goodIn_r _ [40, 41, 42, 43, 9, 44, 4, 45, 46, 47, 48, 49, 50, 51, 52, 53, 54, 55, 56, 57, 58, 59, 60, 61, 62, 63, 64, 65, 66, 67, 68, 69, 35, 419, 420, 421, 422, 423, 424, 425, 426, 427, 428] (by decide +kernel) (by decide +kernel)
set_option maxRecDepth 20000 in
theorem gX4_digest_X4_countNow : GoodIn wsX4_digest (wsV RX4 224 RX4 yX4_countNow wsX4_countNow) := goodIn_app (goodIn_of _ (by decide +kernel)) ggX4_digest_X4_countNow
set_option maxRecDepth 20000 in
theorem ggX4_digest_J0_length_8abf5 : GoodIn wsX4_digest wsJ0_length_8abf5 := goodIn_r _ [19, 20, 21, 22, 23, 18, 24, 25, 26, 429, 430, 431, 432] (by decide +kernel) (by decide +kernel)
set_option maxRecDepth 20000 in
theorem gX4_digest_J0_length_8abf5 : GoodIn wsX4_digest (wsV RX4 128 RJ0 yJ0_length_8abf5 wsJ0_length_8abf5) := goodIn_app (goodIn_of _ (by decide +kernel)) ggX4_digest_J0_length_8abf5
set_option maxRecDepth 20000 in
theorem ggX4_digest_J0_charAt_5068e : GoodIn wsX4_digest wsJ0_charAt_5068e := goodIn_r _ [73, 20, 74, 75, 76, 18, 77, 25, 26, 78, 79, 80, 81, 82, 83, 84, 85, 86, 87, 88, 89, 90, 91, 92, 93, 94, 95, 96, 97, 98, 99, 100, 101, 102, 103, 104, 105, 106, 429, 430, 431, 432] (by decide +kernel) (by decide +kernel)
set_option maxRecDepth 20000 in
theorem gX4_digest_J0_charAt_5068e : GoodIn wsX4_digest (wsV RX4 131 RJ0 yJ0_charAt_5068e wsJ0_charAt_5068e) := goodIn_app (goodIn_of _ (by decide +kernel)) ggX4_digest_J0_charAt_5068e
set_option maxRecDepth 20000 in
theorem ggX4_digest_X4_digitOf : GoodIn wsX4_digest wsX4_digitOf := goodIn_r _ [109, 110, 111, 9, 112] (by decide +kernel) (by decide +kernel)
set_option maxRecDepth 20000 in
theorem gX4_digest_X4_digitOf : GoodIn wsX4_digest (va_wsS RX4 227 yX4_digitOf wsX4_digitOf) := goodIn_app (goodIn_of _ (by decide +kernel)) ggX4_digest_X4_digitOf
set_option maxRecDepth 20000 in
theorem ggX4_digest_X4_wouldNow : GoodIn wsX4_digest wsX4_wouldNow := goodIn_r _ [116, 5, 117, 118, 9, 119, 48, 36, 15, 16, 17, 18, 19, 20, 21, 22, 23, 24, 25, 26, 70, 71, 72, 73, 74, 75, 76, 77, 78, 79, 80, 81, 82, 83, 84, 85, 86, 87, 88, 89, 90, 91, 92, 93, 94, 95, 96, 97, 98, 99, 100, 101, 102, 103, 104, 105, 106, 120, 121, 122, 110, 111, 112, 123, 124, 125, 126, 127, 128, 129, 130, 131, 132, 67, 68, 69, 35, 133, 134, 135, 32, 33, 34, 419, 420, 421, 422, 423, 424, 425, 426, 427, 428, 429, 430, 431, 432] (by decide +kernel) (by decide +kernel)
set_option maxRecDepth 20000 in
theorem gX4_digest_X4_wouldNow : GoodIn wsX4_digest (wsV RX4 234 RX4 yX4_wouldNow wsX4_wouldNow) := goodIn_app (goodIn_of _ (by decide +kernel)) ggX4_digest_X4_wouldNow
set_option maxRecDepth 20000 in
theorem ggX4_digest_X4_writtenNow : GoodIn wsX4_digest wsX4_writtenNow := goodIn_r _ [139, 41, 42, 43, 9, 44, 4, 45, 46, 47, 48, 140, 141, 142, 143, 144, 145, 67, 68, 69, 35, 146, 147, 148, 149, 150, 151, 152, 153, 154, 155, 156, 157, 158, 159, 160, 161, 92, 162, 163, 164, 165, 166, 167, 168, 169, 170, 171, 172, 173, 174, 175, 176, 177, 178, 179, 180, 181, 182, 183, 184, 185, 186, 187, 188, 189, 190, 191, 192, 193, 194, 195, 196, 197, 198, 199, 200, 201, 202, 203, 204, 205, 206, 207, 208, 209, 210, 211, 212, 213, 214, 215, 216, 217, 218, 219, 220, 221, 222, 223, 224, 225, 226, 227, 228, 229, 104, 230, 231, 232, 97, 98, 99, 233, 234, 18, 235, 85, 236, 237, 88, 238, 239, 240, 241, 105, 106, 242, 16, 17, 19, 20, 21, 22, 23, 24, 25, 26, 243, 244, 245, 246, 247, 248, 249, 250, 251, 252, 253, 254, 255, 256, 257, 258, 259, 260, 80, 261, 262, 263, 264, 265, 266, 267, 268, 269, 270, 271, 272, 273, 274, 275, 276, 277, 278, 279, 126, 127, 128, 129, 36, 280, 281, 282, 283, 284, 285, 286, 287, 288, 289, 290, 291, 292, 293, 294, 64, 65, 66, 295, 296, 297, 298, 299, 300, 301, 302, 303, 304, 305, 306, 307, 308, 309, 310, 311, 94, 95, 96, 100, 83, 84, 86, 87, 89, 312, 313, 314, 315, 316, 317, 318, 319, 320, 321, 322, 102, 103, 323, 324, 325, 326, 327, 328, 329, 330, 331, 332, 333, 334, 335, 336, 337, 338, 339, 340, 341, 342, 343, 344, 345, 346, 347, 348, 349, 350, 351, 352, 353, 354, 355, 356, 357, 358, 359, 360, 361, 101, 362, 363, 364, 365, 419, 420, 421, 422, 423, 424, 425, 426, 427, 428, 433, 434, 435, 436, 429, 430, 431, 432] (by decide +kernel) (by decide +kernel)
set_option maxRecDepth 20000 in
theorem gX4_digest_X4_writtenNow : GoodIn wsX4_digest (wsV RX4 189 RX4 yX4_writtenNow wsX4_writtenNow) := goodIn_app (goodIn_of _ (by decide +kernel)) ggX4_digest_X4_writtenNow
set_option maxRecDepth 20000 in
theorem ggX4_digest_X4_sameNow : GoodIn wsX4_digest wsX4_sameNow := goodIn_r _ [369, 5, 117, 118, 9, 119, 48, 36, 15, 16, 17, 18, 19, 20, 21, 22, 23, 24, 25, 26, 70, 71, 72, 73, 74, 75, 76, 77, 78, 79, 80, 81, 82, 83, 84, 85, 86, 87, 88, 89, 90, 91, 92, 93, 94, 95, 96, 97, 98, 99, 100, 101, 102, 103, 104, 105, 106, 120, 121, 122, 110, 111, 112, 123, 124, 125, 126, 127, 128, 129, 130, 131, 132, 67, 68, 69, 35, 41, 42, 43, 44, 4, 45, 46, 47, 58, 59, 60, 419, 420, 421, 422, 423, 424, 425, 426, 427, 428, 429, 430, 431, 432] (by decide +kernel) (by decide +kernel)
set_option maxRecDepth 20000 in
theorem gX4_digest_X4_sameNow : GoodIn wsX4_digest (wsV RX4 237 RX4 yX4_sameNow wsX4_sameNow) := goodIn_app (goodIn_of _ (by decide +kernel)) ggX4_digest_X4_sameNow
set_option maxRecDepth 20000 in
theorem ggX4_digest_X4_isSoundNow : GoodIn wsX4_digest wsX4_isSoundNow := goodIn_r _ [373, 4, 48, 374, 375, 376, 9, 377, 120, 121, 122, 378, 379, 380, 381, 35, 382, 383, 129, 36, 384, 385, 386, 387, 388, 389, 390, 391, 392, 393, 394, 395, 396, 397, 398, 399, 64, 65, 66, 400, 401, 402, 403, 52, 53, 54, 67, 68, 69, 404, 405, 406, 55, 56, 57, 58, 59, 60, 407, 408, 409, 126, 127, 128, 410, 411, 412, 130, 131, 132, 413, 414, 415, 416, 417, 418, 49, 50, 51, 45, 46, 47, 419, 420, 421, 422, 423, 424, 425, 426, 427, 428] (by decide +kernel) (by decide +kernel)
set_option maxRecDepth 20000 in
theorem gX4_digest_X4_isSoundNow : GoodIn wsX4_digest (wsV RX4 262 RX4 yX4_isSoundNow wsX4_isSoundNow) := goodIn_app (goodIn_of _ (by decide +kernel)) ggX4_digest_X4_isSoundNow
theorem dX4_digest_0 : decode cX4_digest 0 = .ok (.aload_n 0, 1) := by decide +kernel
theorem dX4_digest_1 : decode cX4_digest 1 = .ok (.iconst 0, 1) := by decide +kernel
theorem dX4_digest_2 : decode cX4_digest 2 = .ok (.putfield 27, 3) := by decide +kernel
theorem dX4_digest_5 : decode cX4_digest 5 = .ok (.aload_n 0, 1) := by decide +kernel
theorem dX4_digest_6 : decode cX4_digest 6 = .ok (.ldc2_w 270, 3) := by decide +kernel
theorem dX4_digest_9 : decode cX4_digest 9 = .ok (.putfield 265, 3) := by decide +kernel
theorem dX4_digest_12 : decode cX4_digest 12 = .ok (.iconst 0, 1) := by decide +kernel
theorem dX4_digest_13 : decode cX4_digest 13 = .ok (.istore_n 1, 1) := by decide +kernel
theorem dX4_digest_14 : decode cX4_digest 14 = .ok (.iload_n 1, 1) := by decide +kernel
theorem dX4_digest_15 : decode cX4_digest 15 = .ok (.iconst 5, 1) := by decide +kernel
theorem dX4_digest_16 : decode cX4_digest 16 = .ok (.if_icmp .ge 19, 3) := by decide +kernel
theorem dX4_digest_19 : decode cX4_digest 19 = .ok (.aload_n 0, 1) := by decide +kernel
theorem dX4_digest_20 : decode cX4_digest 20 = .ok (.aload_n 0, 1) := by decide +kernel
theorem dX4_digest_21 : decode cX4_digest 21 = .ok (.iload_n 1, 1) := by decide +kernel
theorem dX4_digest_22 : decode cX4_digest 22 = .ok (.invokevirtual 231, 3) := by decide +kernel
theorem dX4_digest_25 : decode cX4_digest 25 = .ok (.i2l, 1) := by decide +kernel
theorem dX4_digest_26 : decode cX4_digest 26 = .ok (.invokevirtual 272, 3) := by decide +kernel
theorem dX4_digest_29 : decode cX4_digest 29 = .ok (.iinc 1 1, 3) := by decide +kernel
theorem dX4_digest_32 : decode cX4_digest 32 = .ok (.goto (-18), 3) := by decide +kernel
theorem dX4_digest_35 : decode cX4_digest 35 = .ok (.iconst 0, 1) := by decide +kernel
theorem dX4_digest_36 : decode cX4_digest 36 = .ok (.istore_n 1, 1) := by decide +kernel
theorem dX4_digest_37 : decode cX4_digest 37 = .ok (.iload_n 1, 1) := by decide +kernel
theorem dX4_digest_38 : decode cX4_digest 38 = .ok (.bipush 8, 2) := by decide +kernel
theorem dX4_digest_40 : decode cX4_digest 40 = .ok (.if_icmp .ge 89, 3) := by decide +kernel
theorem dX4_digest_43 : decode cX4_digest 43 = .ok (.aload_n 0, 1) := by decide +kernel
theorem dX4_digest_44 : decode cX4_digest 44 = .ok (.aload_n 0, 1) := by decide +kernel
theorem dX4_digest_45 : decode cX4_digest 45 = .ok (.getfield 11, 3) := by decide +kernel
theorem dX4_digest_48 : decode cX4_digest 48 = .ok (.iload_n 1, 1) := by decide +kernel
theorem dX4_digest_49 : decode cX4_digest 49 = .ok (.aaload, 1) := by decide +kernel
theorem dX4_digest_50 : decode cX4_digest 50 = .ok (.iconst 2, 1) := by decide +kernel
theorem dX4_digest_51 : decode cX4_digest 51 = .ok (.invokestatic 221, 3) := by decide +kernel
theorem dX4_digest_54 : decode cX4_digest 54 = .ok (.i2l, 1) := by decide +kernel
theorem dX4_digest_55 : decode cX4_digest 55 = .ok (.invokevirtual 272, 3) := by decide +kernel
theorem dX4_digest_58 : decode cX4_digest 58 = .ok (.aload_n 0, 1) := by decide +kernel
theorem dX4_digest_59 : decode cX4_digest 59 = .ok (.aload_n 0, 1) := by decide +kernel
theorem dX4_digest_60 : decode cX4_digest 60 = .ok (.getfield 11, 3) := by decide +kernel
theorem dX4_digest_63 : decode cX4_digest 63 = .ok (.iload_n 1, 1) := by decide +kernel
theorem dX4_digest_64 : decode cX4_digest 64 = .ok (.aaload, 1) := by decide +kernel
theorem dX4_digest_65 : decode cX4_digest 65 = .ok (.iconst 0, 1) := by decide +kernel
theorem dX4_digest_66 : decode cX4_digest 66 = .ok (.invokestatic 221, 3) := by decide +kernel
theorem dX4_digest_69 : decode cX4_digest 69 = .ok (.i2l, 1) := by decide +kernel
theorem dX4_digest_70 : decode cX4_digest 70 = .ok (.invokevirtual 272, 3) := by decide +kernel
theorem dX4_digest_73 : decode cX4_digest 73 = .ok (.iconst 0, 1) := by decide +kernel
theorem dX4_digest_74 : decode cX4_digest 74 = .ok (.istore_n 2, 1) := by decide +kernel
theorem dX4_digest_75 : decode cX4_digest 75 = .ok (.iload_n 2, 1) := by decide +kernel
theorem dX4_digest_76 : decode cX4_digest 76 = .ok (.iconst 4, 1) := by decide +kernel
theorem dX4_digest_77 : decode cX4_digest 77 = .ok (.if_icmp .ge 21, 3) := by decide +kernel
theorem dX4_digest_80 : decode cX4_digest 80 = .ok (.aload_n 0, 1) := by decide +kernel
theorem dX4_digest_81 : decode cX4_digest 81 = .ok (.aload_n 0, 1) := by decide +kernel
theorem dX4_digest_82 : decode cX4_digest 82 = .ok (.iload_n 1, 1) := by decide +kernel
theorem dX4_digest_83 : decode cX4_digest 83 = .ok (.iload_n 2, 1) := by decide +kernel
theorem dX4_digest_84 : decode cX4_digest 84 = .ok (.iconst 0, 1) := by decide +kernel
theorem dX4_digest_85 : decode cX4_digest 85 = .ok (.invokevirtual 224, 3) := by decide +kernel
theorem dX4_digest_88 : decode cX4_digest 88 = .ok (.i2l, 1) := by decide +kernel
theorem dX4_digest_89 : decode cX4_digest 89 = .ok (.invokevirtual 272, 3) := by decide +kernel
theorem dX4_digest_92 : decode cX4_digest 92 = .ok (.iinc 2 1, 3) := by decide +kernel
theorem dX4_digest_95 : decode cX4_digest 95 = .ok (.goto (-20), 3) := by decide +kernel
theorem dX4_digest_98 : decode cX4_digest 98 = .ok (.iconst 0, 1) := by decide +kernel
theorem dX4_digest_99 : decode cX4_digest 99 = .ok (.istore_n 2, 1) := by decide +kernel
theorem dX4_digest_100 : decode cX4_digest 100 = .ok (.iload_n 2, 1) := by decide +kernel
theorem dX4_digest_101 : decode cX4_digest 101 = .ok (.iconst 4, 1) := by decide +kernel
theorem dX4_digest_102 : decode cX4_digest 102 = .ok (.if_icmp .ge 21, 3) := by decide +kernel
theorem dX4_digest_105 : decode cX4_digest 105 = .ok (.aload_n 0, 1) := by decide +kernel
theorem dX4_digest_106 : decode cX4_digest 106 = .ok (.aload_n 0, 1) := by decide +kernel
theorem dX4_digest_107 : decode cX4_digest 107 = .ok (.iload_n 1, 1) := by decide +kernel
theorem dX4_digest_108 : decode cX4_digest 108 = .ok (.iload_n 2, 1) := by decide +kernel
theorem dX4_digest_109 : decode cX4_digest 109 = .ok (.iconst 1, 1) := by decide +kernel
theorem dX4_digest_110 : decode cX4_digest 110 = .ok (.invokevirtual 224, 3) := by decide +kernel
theorem dX4_digest_113 : decode cX4_digest 113 = .ok (.i2l, 1) := by decide +kernel
theorem dX4_digest_114 : decode cX4_digest 114 = .ok (.invokevirtual 272, 3) := by decide +kernel
theorem dX4_digest_117 : decode cX4_digest 117 = .ok (.iinc 2 1, 3) := by decide +kernel
theorem dX4_digest_120 : decode cX4_digest 120 = .ok (.goto (-20), 3) := by decide +kernel
theorem dX4_digest_123 : decode cX4_digest 123 = .ok (.iinc 1 1, 3) := by decide +kernel
theorem dX4_digest_126 : decode cX4_digest 126 = .ok (.goto (-89), 3) := by decide +kernel
theorem dX4_digest_129 : decode cX4_digest 129 = .ok (.iconst 0, 1) := by decide +kernel
theorem dX4_digest_130 : decode cX4_digest 130 = .ok (.istore_n 1, 1) := by decide +kernel
theorem dX4_digest_131 : decode cX4_digest 131 = .ok (.iload_n 1, 1) := by decide +kernel
theorem dX4_digest_132 : decode cX4_digest 132 = .ok (.aload_n 0, 1) := by decide +kernel
theorem dX4_digest_133 : decode cX4_digest 133 = .ok (.getfield 16, 3) := by decide +kernel
theorem dX4_digest_136 : decode cX4_digest 136 = .ok (.invokevirtual 128, 3) := by decide +kernel
theorem dX4_digest_139 : decode cX4_digest 139 = .ok (.if_icmp .ge 27, 3) := by decide +kernel
theorem dX4_digest_142 : decode cX4_digest 142 = .ok (.aload_n 0, 1) := by decide +kernel
theorem dX4_digest_143 : decode cX4_digest 143 = .ok (.aload_n 0, 1) := by decide +kernel
theorem dX4_digest_144 : decode cX4_digest 144 = .ok (.getfield 16, 3) := by decide +kernel
theorem dX4_digest_147 : decode cX4_digest 147 = .ok (.iload_n 1, 1) := by decide +kernel
theorem dX4_digest_148 : decode cX4_digest 148 = .ok (.invokevirtual 131, 3) := by decide +kernel
theorem dX4_digest_151 : decode cX4_digest 151 = .ok (.bipush 36, 2) := by decide +kernel
theorem dX4_digest_153 : decode cX4_digest 153 = .ok (.invokestatic 227, 3) := by decide +kernel
theorem dX4_digest_156 : decode cX4_digest 156 = .ok (.i2l, 1) := by decide +kernel
theorem dX4_digest_157 : decode cX4_digest 157 = .ok (.invokevirtual 272, 3) := by decide +kernel
theorem dX4_digest_160 : decode cX4_digest 160 = .ok (.iinc 1 1, 3) := by decide +kernel
theorem dX4_digest_163 : decode cX4_digest 163 = .ok (.goto (-32), 3) := by decide +kernel
theorem dX4_digest_166 : decode cX4_digest 166 = .ok (.iconst 0, 1) := by decide +kernel
theorem dX4_digest_167 : decode cX4_digest 167 = .ok (.istore_n 1, 1) := by decide +kernel
theorem dX4_digest_168 : decode cX4_digest 168 = .ok (.iload_n 1, 1) := by decide +kernel
theorem dX4_digest_169 : decode cX4_digest 169 = .ok (.iconst 4, 1) := by decide +kernel
theorem dX4_digest_170 : decode cX4_digest 170 = .ok (.if_icmp .ge 51, 3) := by decide +kernel
theorem dX4_digest_173 : decode cX4_digest 173 = .ok (.aload_n 0, 1) := by decide +kernel
theorem dX4_digest_174 : decode cX4_digest 174 = .ok (.aload_n 0, 1) := by decide +kernel
theorem dX4_digest_175 : decode cX4_digest 175 = .ok (.bipush 10, 2) := by decide +kernel
theorem dX4_digest_177 : decode cX4_digest 177 = .ok (.iload_n 1, 1) := by decide +kernel
theorem dX4_digest_178 : decode cX4_digest 178 = .ok (.iconst 1, 1) := by decide +kernel
theorem dX4_digest_179 : decode cX4_digest 179 = .ok (.invokevirtual 234, 3) := by decide +kernel
theorem dX4_digest_182 : decode cX4_digest 182 = .ok (.i2l, 1) := by decide +kernel
theorem dX4_digest_183 : decode cX4_digest 183 = .ok (.invokevirtual 272, 3) := by decide +kernel
theorem dX4_digest_186 : decode cX4_digest 186 = .ok (.aload_n 0, 1) := by decide +kernel
theorem dX4_digest_187 : decode cX4_digest 187 = .ok (.aload_n 0, 1) := by decide +kernel
theorem dX4_digest_188 : decode cX4_digest 188 = .ok (.bipush 10, 2) := by decide +kernel
theorem dX4_digest_190 : decode cX4_digest 190 = .ok (.iload_n 1, 1) := by decide +kernel
theorem dX4_digest_191 : decode cX4_digest 191 = .ok (.iconst 0, 1) := by decide +kernel
theorem dX4_digest_192 : decode cX4_digest 192 = .ok (.invokevirtual 234, 3) := by decide +kernel
theorem dX4_digest_195 : decode cX4_digest 195 = .ok (.i2l, 1) := by decide +kernel
theorem dX4_digest_196 : decode cX4_digest 196 = .ok (.invokevirtual 272, 3) := by decide +kernel
theorem dX4_digest_199 : decode cX4_digest 199 = .ok (.aload_n 0, 1) := by decide +kernel
theorem dX4_digest_200 : decode cX4_digest 200 = .ok (.aload_n 0, 1) := by decide +kernel
theorem dX4_digest_201 : decode cX4_digest 201 = .ok (.iconst 0, 1) := by decide +kernel
theorem dX4_digest_202 : decode cX4_digest 202 = .ok (.bipush 7, 2) := by decide +kernel
theorem dX4_digest_204 : decode cX4_digest 204 = .ok (.iload_n 1, 1) := by decide +kernel
theorem dX4_digest_205 : decode cX4_digest 205 = .ok (.invokevirtual 189, 3) := by decide +kernel
theorem dX4_digest_208 : decode cX4_digest 208 = .ok (.invokevirtual 128, 3) := by decide +kernel
theorem dX4_digest_211 : decode cX4_digest 211 = .ok (.i2l, 1) := by decide +kernel
theorem dX4_digest_212 : decode cX4_digest 212 = .ok (.invokevirtual 272, 3) := by decide +kernel
theorem dX4_digest_215 : decode cX4_digest 215 = .ok (.iinc 1 1, 3) := by decide +kernel
theorem dX4_digest_218 : decode cX4_digest 218 = .ok (.goto (-50), 3) := by decide +kernel
theorem dX4_digest_221 : decode cX4_digest 221 = .ok (.aload_n 0, 1) := by decide +kernel
theorem dX4_digest_222 : decode cX4_digest 222 = .ok (.aload_n 0, 1) := by decide +kernel
theorem dX4_digest_223 : decode cX4_digest 223 = .ok (.bipush 16, 2) := by decide +kernel
theorem dX4_digest_225 : decode cX4_digest 225 = .ok (.iconst 2, 1) := by decide +kernel
theorem dX4_digest_226 : decode cX4_digest 226 = .ok (.invokevirtual 237, 3) := by decide +kernel
theorem dX4_digest_229 : decode cX4_digest 229 = .ok (.i2l, 1) := by decide +kernel
theorem dX4_digest_230 : decode cX4_digest 230 = .ok (.invokevirtual 272, 3) := by decide +kernel
theorem dX4_digest_233 : decode cX4_digest 233 = .ok (.aload_n 0, 1) := by decide +kernel
theorem dX4_digest_234 : decode cX4_digest 234 = .ok (.aload_n 0, 1) := by decide +kernel
theorem dX4_digest_235 : decode cX4_digest 235 = .ok (.invokevirtual 262, 3) := by decide +kernel
theorem dX4_digest_238 : decode cX4_digest 238 = .ok (.ifCond .eq 7, 3) := by decide +kernel
theorem dX4_digest_241 : decode cX4_digest 241 = .ok (.lconst 1, 1) := by decide +kernel
theorem dX4_digest_242 : decode cX4_digest 242 = .ok (.goto 4, 3) := by decide +kernel
theorem dX4_digest_245 : decode cX4_digest 245 = .ok (.lconst 0, 1) := by decide +kernel
theorem dX4_digest_246 : decode cX4_digest 246 = .ok (.invokevirtual 272, 3) := by decide +kernel
theorem dX4_digest_249 : decode cX4_digest 249 = .ok (.aload_n 0, 1) := by decide +kernel
theorem dX4_digest_250 : decode cX4_digest 250 = .ok (.getfield 265, 3) := by decide +kernel
theorem dX4_digest_253 : decode cX4_digest 253 = .ok (.lreturn, 1) := by decide +kernel
