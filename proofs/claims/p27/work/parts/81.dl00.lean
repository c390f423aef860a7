theorem dL_put_0 : decode cL_put 0 = .ok (.aload 4, 2) := by decide +kernel
theorem dL_put_2 : decode cL_put 2 = .ok (.aload_n 0, 1) := by decide +kernel
theorem dL_put_3 : decode cL_put 3 = .ok (.iload_n 1, 1) := by decide +kernel
theorem dL_put_4 : decode cL_put 4 = .ok (.iload_n 2, 1) := by decide +kernel
theorem dL_put_5 : decode cL_put 5 = .ok (.iload_n 3, 1) := by decide +kernel
theorem dL_put_6 : decode cL_put 6 = .ok (.invokevirtual 7, 3) := by decide +kernel
theorem dL_put_9 : decode cL_put 9 = .ok (.i2l, 1) := by decide +kernel
theorem dL_put_10 : decode cL_put 10 = .ok (.putfield 13, 3) := by decide +kernel
theorem dL_put_13 : decode cL_put 13 = .ok (.goto 7, 3) := by decide +kernel
theorem dL_put_16 : decode cL_put 16 = .ok (.astore 5, 2) := by decide +kernel
theorem dL_put_18 : decode cL_put 18 = .ok (.iconst 1, 1) := by decide +kernel
theorem dL_put_19 : decode cL_put 19 = .ok (.ireturn, 1) := by decide +kernel
theorem dL_put_20 : decode cL_put 20 = .ok (.iconst 0, 1) := by decide +kernel
theorem dL_put_21 : decode cL_put 21 = .ok (.ireturn, 1) := by decide +kernel
theorem dL_copy_0 : decode cL_copy 0 = .ok (.aload_n 3, 1) := by decide +kernel
theorem dL_copy_1 : decode cL_copy 1 = .ok (.aload_n 0, 1) := by decide +kernel
theorem dL_copy_2 : decode cL_copy 2 = .ok (.iload_n 1, 1) := by decide +kernel
theorem dL_copy_3 : decode cL_copy 3 = .ok (.iload_n 2, 1) := by decide +kernel
theorem dL_copy_4 : decode cL_copy 4 = .ok (.invokevirtual 21, 3) := by decide +kernel
theorem dL_copy_7 : decode cL_copy 7 = .ok (.ifCond .eq 7, 3) := by decide +kernel
theorem dL_copy_10 : decode cL_copy 10 = .ok (.lconst 1, 1) := by decide +kernel
theorem dL_copy_11 : decode cL_copy 11 = .ok (.goto 4, 3) := by decide +kernel
theorem dL_copy_14 : decode cL_copy 14 = .ok (.lconst 0, 1) := by decide +kernel
theorem dL_copy_15 : decode cL_copy 15 = .ok (.putfield 13, 3) := by decide +kernel
theorem dL_copy_18 : decode cL_copy 18 = .ok (.goto 7, 3) := by decide +kernel
theorem dL_copy_21 : decode cL_copy 21 = .ok (.astore 4, 2) := by decide +kernel
theorem dL_copy_23 : decode cL_copy 23 = .ok (.iconst 1, 1) := by decide +kernel
theorem dL_copy_24 : decode cL_copy 24 = .ok (.ireturn, 1) := by decide +kernel
theorem dL_copy_25 : decode cL_copy 25 = .ok (.iconst 0, 1) := by decide +kernel
theorem dL_copy_26 : decode cL_copy 26 = .ok (.ireturn, 1) := by decide +kernel
theorem dL_type_0 : decode cL_type 0 = .ok (.aload_n 3, 1) := by decide +kernel
theorem dL_type_1 : decode cL_type 1 = .ok (.aload_n 0, 1) := by decide +kernel
theorem dL_type_2 : decode cL_type 2 = .ok (.iload_n 1, 1) := by decide +kernel
theorem dL_type_3 : decode cL_type 3 = .ok (.iload_n 2, 1) := by decide +kernel
theorem dL_type_4 : decode cL_type 4 = .ok (.invokevirtual 25, 3) := by decide +kernel
theorem dL_type_7 : decode cL_type 7 = .ok (.i2l, 1) := by decide +kernel
theorem dL_type_8 : decode cL_type 8 = .ok (.putfield 13, 3) := by decide +kernel
theorem dL_type_11 : decode cL_type 11 = .ok (.goto 11, 3) := by decide +kernel
theorem dL_type_14 : decode cL_type 14 = .ok (.astore 4, 2) := by decide +kernel
theorem dL_type_16 : decode cL_type 16 = .ok (.iconst 1, 1) := by decide +kernel
theorem dL_type_17 : decode cL_type 17 = .ok (.ireturn, 1) := by decide +kernel
theorem dL_type_18 : decode cL_type 18 = .ok (.astore 4, 2) := by decide +kernel
theorem dL_type_20 : decode cL_type 20 = .ok (.iconst 2, 1) := by decide +kernel
theorem dL_type_21 : decode cL_type 21 = .ok (.ireturn, 1) := by decide +kernel
theorem dL_type_22 : decode cL_type 22 = .ok (.iconst 0, 1) := by decide +kernel
theorem dL_type_23 : decode cL_type 23 = .ok (.ireturn, 1) := by decide +kernel
theorem dL_erase_0 : decode cL_erase 0 = .ok (.aload_n 1, 1) := by decide +kernel
theorem dL_erase_1 : decode cL_erase 1 = .ok (.aload_n 0, 1) := by decide +kernel
theorem dL_erase_2 : decode cL_erase 2 = .ok (.invokevirtual 33, 3) := by decide +kernel
theorem dL_erase_5 : decode cL_erase 5 = .ok (.i2l, 1) := by decide +kernel
theorem dL_erase_6 : decode cL_erase 6 = .ok (.putfield 13, 3) := by decide +kernel
theorem dL_erase_9 : decode cL_erase 9 = .ok (.goto 6, 3) := by decide +kernel
theorem dL_erase_12 : decode cL_erase 12 = .ok (.astore_n 2, 1) := by decide +kernel
theorem dL_erase_13 : decode cL_erase 13 = .ok (.iconst 1, 1) := by decide +kernel
theorem dL_erase_14 : decode cL_erase 14 = .ok (.ireturn, 1) := by decide +kernel
theorem dL_erase_15 : decode cL_erase 15 = .ok (.iconst 0, 1) := by decide +kernel
theorem dL_erase_16 : decode cL_erase 16 = .ok (.ireturn, 1) := by decide +kernel
theorem dL_read_0 : decode cL_read 0 = .ok (.aload 4, 2) := by decide +kernel
theorem dL_read_2 : decode cL_read 2 = .ok (.aload_n 0, 1) := by decide +kernel
theorem dL_read_3 : decode cL_read 3 = .ok (.iload_n 1, 1) := by decide +kernel
theorem dL_read_4 : decode cL_read 4 = .ok (.iload_n 2, 1) := by decide +kernel
theorem dL_read_5 : decode cL_read 5 = .ok (.iload_n 3, 1) := by decide +kernel
theorem dL_read_6 : decode cL_read 6 = .ok (.invokevirtual 37, 3) := by decide +kernel
theorem dL_read_9 : decode cL_read 9 = .ok (.i2l, 1) := by decide +kernel
theorem dL_read_10 : decode cL_read 10 = .ok (.putfield 13, 3) := by decide +kernel
theorem dL_read_13 : decode cL_read 13 = .ok (.goto 11, 3) := by decide +kernel
theorem dL_read_16 : decode cL_read 16 = .ok (.astore 5, 2) := by decide +kernel
theorem dL_read_18 : decode cL_read 18 = .ok (.iconst 1, 1) := by decide +kernel
theorem dL_read_19 : decode cL_read 19 = .ok (.ireturn, 1) := by decide +kernel
theorem dL_read_20 : decode cL_read 20 = .ok (.astore 5, 2) := by decide +kernel
theorem dL_read_22 : decode cL_read 22 = .ok (.iconst 2, 1) := by decide +kernel
theorem dL_read_23 : decode cL_read 23 = .ok (.ireturn, 1) := by decide +kernel
theorem dL_read_24 : decode cL_read 24 = .ok (.iconst 0, 1) := by decide +kernel
theorem dL_read_25 : decode cL_read 25 = .ok (.ireturn, 1) := by decide +kernel
theorem dL_write_0 : decode cL_write 0 = .ok (.aload 4, 2) := by decide +kernel
theorem dL_write_2 : decode cL_write 2 = .ok (.aload_n 0, 1) := by decide +kernel
theorem dL_write_3 : decode cL_write 3 = .ok (.iload_n 1, 1) := by decide +kernel
theorem dL_write_4 : decode cL_write 4 = .ok (.iload_n 2, 1) := by decide +kernel
theorem dL_write_5 : decode cL_write 5 = .ok (.iload_n 3, 1) := by decide +kernel
theorem dL_write_6 : decode cL_write 6 = .ok (.invokevirtual 40, 3) := by decide +kernel
theorem dL_write_9 : decode cL_write 9 = .ok (.i2l, 1) := by decide +kernel
theorem dL_write_10 : decode cL_write 10 = .ok (.putfield 13, 3) := by decide +kernel
theorem dL_write_13 : decode cL_write 13 = .ok (.goto 11, 3) := by decide +kernel
theorem dL_write_16 : decode cL_write 16 = .ok (.astore 5, 2) := by decide +kernel
theorem dL_write_18 : decode cL_write 18 = .ok (.iconst 1, 1) := by decide +kernel
theorem dL_write_19 : decode cL_write 19 = .ok (.ireturn, 1) := by decide +kernel
theorem dL_write_20 : decode cL_write 20 = .ok (.astore 5, 2) := by decide +kernel
theorem dL_write_22 : decode cL_write 22 = .ok (.iconst 2, 1) := by decide +kernel
theorem dL_write_23 : decode cL_write 23 = .ok (.ireturn, 1) := by decide +kernel
theorem dL_write_24 : decode cL_write 24 = .ok (.iconst 0, 1) := by decide +kernel
theorem dL_write_25 : decode cL_write 25 = .ok (.ireturn, 1) := by decide +kernel
theorem dL_bits_0 : decode cL_bits 0 = .ok (.aload 4, 2) := by decide +kernel
theorem dL_bits_2 : decode cL_bits 2 = .ok (.aload_n 0, 1) := by decide +kernel
theorem dL_bits_3 : decode cL_bits 3 = .ok (.iload_n 1, 1) := by decide +kernel
theorem dL_bits_4 : decode cL_bits 4 = .ok (.iload_n 2, 1) := by decide +kernel
theorem dL_bits_5 : decode cL_bits 5 = .ok (.iload_n 3, 1) := by decide +kernel
theorem dL_bits_6 : decode cL_bits 6 = .ok (.invokevirtual 43, 3) := by decide +kernel
theorem dL_bits_9 : decode cL_bits 9 = .ok (.i2l, 1) := by decide +kernel
theorem dL_bits_10 : decode cL_bits 10 = .ok (.putfield 13, 3) := by decide +kernel
theorem dL_bits_13 : decode cL_bits 13 = .ok (.goto 11, 3) := by decide +kernel
theorem dL_bits_16 : decode cL_bits 16 = .ok (.astore 5, 2) := by decide +kernel
theorem dL_bits_18 : decode cL_bits 18 = .ok (.iconst 1, 1) := by decide +kernel
theorem dL_bits_19 : decode cL_bits 19 = .ok (.ireturn, 1) := by decide +kernel
theorem dL_bits_20 : decode cL_bits 20 = .ok (.astore 5, 2) := by decide +kernel
theorem dL_bits_22 : decode cL_bits 22 = .ok (.iconst 2, 1) := by decide +kernel
theorem dL_bits_23 : decode cL_bits 23 = .ok (.ireturn, 1) := by decide +kernel
theorem dL_bits_24 : decode cL_bits 24 = .ok (.iconst 0, 1) := by decide +kernel
theorem dL_bits_25 : decode cL_bits 25 = .ok (.ireturn, 1) := by decide +kernel
theorem dL_divide_0 : decode cL_divide 0 = .ok (.aload 4, 2) := by decide +kernel
theorem dL_divide_2 : decode cL_divide 2 = .ok (.aload_n 0, 1) := by decide +kernel
theorem dL_divide_3 : decode cL_divide 3 = .ok (.iload_n 1, 1) := by decide +kernel
theorem dL_divide_4 : decode cL_divide 4 = .ok (.iload_n 2, 1) := by decide +kernel
theorem dL_divide_5 : decode cL_divide 5 = .ok (.iload_n 3, 1) := by decide +kernel
theorem dL_divide_6 : decode cL_divide 6 = .ok (.invokevirtual 47, 3) := by decide +kernel
theorem dL_divide_9 : decode cL_divide 9 = .ok (.ifCond .eq 7, 3) := by decide +kernel
theorem dL_divide_12 : decode cL_divide 12 = .ok (.lconst 1, 1) := by decide +kernel
theorem dL_divide_13 : decode cL_divide 13 = .ok (.goto 4, 3) := by decide +kernel
theorem dL_divide_16 : decode cL_divide 16 = .ok (.lconst 0, 1) := by decide +kernel
theorem dL_divide_17 : decode cL_divide 17 = .ok (.putfield 13, 3) := by decide +kernel
theorem dL_divide_20 : decode cL_divide 20 = .ok (.goto 11, 3) := by decide +kernel
theorem dL_divide_23 : decode cL_divide 23 = .ok (.astore 5, 2) := by decide +kernel
theorem dL_divide_25 : decode cL_divide 25 = .ok (.iconst 1, 1) := by decide +kernel
theorem dL_divide_26 : decode cL_divide 26 = .ok (.ireturn, 1) := by decide +kernel
theorem dL_divide_27 : decode cL_divide 27 = .ok (.astore 5, 2) := by decide +kernel
theorem dL_divide_29 : decode cL_divide 29 = .ok (.iconst 2, 1) := by decide +kernel
theorem dL_divide_30 : decode cL_divide 30 = .ok (.ireturn, 1) := by decide +kernel
theorem dL_divide_31 : decode cL_divide 31 = .ok (.iconst 0, 1) := by decide +kernel
theorem dL_divide_32 : decode cL_divide 32 = .ok (.ireturn, 1) := by decide +kernel
theorem dL_rest_0 : decode cL_rest 0 = .ok (.aload 4, 2) := by decide +kernel
theorem dL_rest_2 : decode cL_rest 2 = .ok (.aload_n 0, 1) := by decide +kernel
theorem dL_rest_3 : decode cL_rest 3 = .ok (.iload_n 1, 1) := by decide +kernel
theorem dL_rest_4 : decode cL_rest 4 = .ok (.iload_n 2, 1) := by decide +kernel
theorem dL_rest_5 : decode cL_rest 5 = .ok (.iload_n 3, 1) := by decide +kernel
theorem dL_rest_6 : decode cL_rest 6 = .ok (.invokevirtual 51, 3) := by decide +kernel
theorem dL_rest_9 : decode cL_rest 9 = .ok (.ifCond .eq 7, 3) := by decide +kernel
theorem dL_rest_12 : decode cL_rest 12 = .ok (.lconst 1, 1) := by decide +kernel
theorem dL_rest_13 : decode cL_rest 13 = .ok (.goto 4, 3) := by decide +kernel
theorem dL_rest_16 : decode cL_rest 16 = .ok (.lconst 0, 1) := by decide +kernel
theorem dL_rest_17 : decode cL_rest 17 = .ok (.putfield 13, 3) := by decide +kernel
theorem dL_rest_20 : decode cL_rest 20 = .ok (.goto 11, 3) := by decide +kernel
theorem dL_rest_23 : decode cL_rest 23 = .ok (.astore 5, 2) := by decide +kernel
theorem dL_rest_25 : decode cL_rest 25 = .ok (.iconst 1, 1) := by decide +kernel
theorem dL_rest_26 : decode cL_rest 26 = .ok (.ireturn, 1) := by decide +kernel
theorem dL_rest_27 : decode cL_rest 27 = .ok (.astore 5, 2) := by decide +kernel
theorem dL_rest_29 : decode cL_rest 29 = .ok (.iconst 2, 1) := by decide +kernel
theorem dL_rest_30 : decode cL_rest 30 = .ok (.ireturn, 1) := by decide +kernel
theorem dL_rest_31 : decode cL_rest 31 = .ok (.iconst 0, 1) := by decide +kernel
theorem dL_rest_32 : decode cL_rest 32 = .ok (.ireturn, 1) := by decide +kernel
theorem dL_turn_0 : decode cL_turn 0 = .ok (.aload 4, 2) := by decide +kernel
theorem dL_turn_2 : decode cL_turn 2 = .ok (.aload_n 0, 1) := by decide +kernel
theorem dL_turn_3 : decode cL_turn 3 = .ok (.iload_n 1, 1) := by decide +kernel
theorem dL_turn_4 : decode cL_turn 4 = .ok (.iload_n 2, 1) := by decide +kernel
theorem dL_turn_5 : decode cL_turn 5 = .ok (.iload_n 3, 1) := by decide +kernel
theorem dL_turn_6 : decode cL_turn 6 = .ok (.invokevirtual 54, 3) := by decide +kernel
theorem dL_turn_9 : decode cL_turn 9 = .ok (.ifCond .eq 7, 3) := by decide +kernel
theorem dL_turn_12 : decode cL_turn 12 = .ok (.lconst 1, 1) := by decide +kernel
theorem dL_turn_13 : decode cL_turn 13 = .ok (.goto 4, 3) := by decide +kernel
theorem dL_turn_16 : decode cL_turn 16 = .ok (.lconst 0, 1) := by decide +kernel
theorem dL_turn_17 : decode cL_turn 17 = .ok (.putfield 13, 3) := by decide +kernel
theorem dL_turn_20 : decode cL_turn 20 = .ok (.goto 7, 3) := by decide +kernel
theorem dL_turn_23 : decode cL_turn 23 = .ok (.astore 5, 2) := by decide +kernel
theorem dL_turn_25 : decode cL_turn 25 = .ok (.iconst 1, 1) := by decide +kernel
theorem dL_turn_26 : decode cL_turn 26 = .ok (.ireturn, 1) := by decide +kernel
theorem dL_turn_27 : decode cL_turn 27 = .ok (.iconst 0, 1) := by decide +kernel
theorem dL_turn_28 : decode cL_turn 28 = .ok (.ireturn, 1) := by decide +kernel
theorem dL_about_0 : decode cL_about 0 = .ok (.aload 4, 2) := by decide +kernel
theorem dL_about_2 : decode cL_about 2 = .ok (.aload_n 0, 1) := by decide +kernel
theorem dL_about_3 : decode cL_about 3 = .ok (.iload_n 1, 1) := by decide +kernel
theorem dL_about_4 : decode cL_about 4 = .ok (.iload_n 2, 1) := by decide +kernel
theorem dL_about_5 : decode cL_about 5 = .ok (.iload_n 3, 1) := by decide +kernel
theorem dL_about_6 : decode cL_about 6 = .ok (.invokevirtual 57, 3) := by decide +kernel
theorem dL_about_9 : decode cL_about 9 = .ok (.ifCond .eq 7, 3) := by decide +kernel
theorem dL_about_12 : decode cL_about 12 = .ok (.lconst 1, 1) := by decide +kernel
theorem dL_about_13 : decode cL_about 13 = .ok (.goto 4, 3) := by decide +kernel
theorem dL_about_16 : decode cL_about 16 = .ok (.lconst 0, 1) := by decide +kernel
theorem dL_about_17 : decode cL_about 17 = .ok (.putfield 13, 3) := by decide +kernel
theorem dL_about_20 : decode cL_about 20 = .ok (.goto 7, 3) := by decide +kernel
theorem dL_about_23 : decode cL_about 23 = .ok (.astore 5, 2) := by decide +kernel
theorem dL_about_25 : decode cL_about 25 = .ok (.iconst 1, 1) := by decide +kernel
theorem dL_about_26 : decode cL_about 26 = .ok (.ireturn, 1) := by decide +kernel
theorem dL_about_27 : decode cL_about 27 = .ok (.iconst 0, 1) := by decide +kernel
theorem dL_about_28 : decode cL_about 28 = .ok (.ireturn, 1) := by decide +kernel
theorem dL_pick_0 : decode cL_pick 0 = .ok (.aload 4, 2) := by decide +kernel
theorem dL_pick_2 : decode cL_pick 2 = .ok (.aload_n 0, 1) := by decide +kernel
theorem dL_pick_3 : decode cL_pick 3 = .ok (.iload_n 1, 1) := by decide +kernel
theorem dL_pick_4 : decode cL_pick 4 = .ok (.iload_n 2, 1) := by decide +kernel
theorem dL_pick_5 : decode cL_pick 5 = .ok (.iload_n 3, 1) := by decide +kernel
theorem dL_pick_6 : decode cL_pick 6 = .ok (.invokevirtual 61, 3) := by decide +kernel
theorem dL_pick_9 : decode cL_pick 9 = .ok (.i2l, 1) := by decide +kernel
theorem dL_pick_10 : decode cL_pick 10 = .ok (.putfield 13, 3) := by decide +kernel
theorem dL_pick_13 : decode cL_pick 13 = .ok (.goto 7, 3) := by decide +kernel
theorem dL_pick_16 : decode cL_pick 16 = .ok (.astore 5, 2) := by decide +kernel
theorem dL_pick_18 : decode cL_pick 18 = .ok (.iconst 1, 1) := by decide +kernel
theorem dL_pick_19 : decode cL_pick 19 = .ok (.ireturn, 1) := by decide +kernel
theorem dL_pick_20 : decode cL_pick 20 = .ok (.iconst 0, 1) := by decide +kernel
theorem dL_pick_21 : decode cL_pick 21 = .ok (.ireturn, 1) := by decide +kernel
theorem dL_join_0 : decode cL_join 0 = .ok (.aload 5, 2) := by decide +kernel
theorem dL_join_2 : decode cL_join 2 = .ok (.aload_n 0, 1) := by decide +kernel
theorem dL_join_3 : decode cL_join 3 = .ok (.iload_n 1, 1) := by decide +kernel
theorem dL_join_4 : decode cL_join 4 = .ok (.iload_n 2, 1) := by decide +kernel
theorem dL_join_5 : decode cL_join 5 = .ok (.iload_n 3, 1) := by decide +kernel
theorem dL_join_6 : decode cL_join 6 = .ok (.iload 4, 2) := by decide +kernel
theorem dL_join_8 : decode cL_join 8 = .ok (.invokevirtual 65, 3) := by decide +kernel
theorem dL_join_11 : decode cL_join 11 = .ok (.ifCond .eq 7, 3) := by decide +kernel
theorem dL_join_14 : decode cL_join 14 = .ok (.lconst 1, 1) := by decide +kernel
theorem dL_join_15 : decode cL_join 15 = .ok (.goto 4, 3) := by decide +kernel
theorem dL_join_18 : decode cL_join 18 = .ok (.lconst 0, 1) := by decide +kernel
theorem dL_join_19 : decode cL_join 19 = .ok (.putfield 13, 3) := by decide +kernel
theorem dL_join_22 : decode cL_join 22 = .ok (.goto 11, 3) := by decide +kernel
theorem dL_join_25 : decode cL_join 25 = .ok (.astore 6, 2) := by decide +kernel
theorem dL_join_27 : decode cL_join 27 = .ok (.iconst 1, 1) := by decide +kernel
theorem dL_join_28 : decode cL_join 28 = .ok (.ireturn, 1) := by decide +kernel
theorem dL_join_29 : decode cL_join 29 = .ok (.astore 6, 2) := by decide +kernel
theorem dL_join_31 : decode cL_join 31 = .ok (.iconst 2, 1) := by decide +kernel
theorem dL_join_32 : decode cL_join 32 = .ok (.ireturn, 1) := by decide +kernel
theorem dL_join_33 : decode cL_join 33 = .ok (.iconst 0, 1) := by decide +kernel
theorem dL_join_34 : decode cL_join 34 = .ok (.ireturn, 1) := by decide +kernel
theorem dL_high_0 : decode cL_high 0 = .ok (.aload_n 2, 1) := by decide +kernel
theorem dL_high_1 : decode cL_high 1 = .ok (.aload_n 0, 1) := by decide +kernel
theorem dL_high_2 : decode cL_high 2 = .ok (.iload_n 1, 1) := by decide +kernel
theorem dL_high_3 : decode cL_high 3 = .ok (.invokevirtual 69, 3) := by decide +kernel
theorem dL_high_6 : decode cL_high 6 = .ok (.i2l, 1) := by decide +kernel
theorem dL_high_7 : decode cL_high 7 = .ok (.putfield 13, 3) := by decide +kernel
theorem dL_high_10 : decode cL_high 10 = .ok (.goto 6, 3) := by decide +kernel
theorem dL_high_13 : decode cL_high 13 = .ok (.astore_n 3, 1) := by decide +kernel
theorem dL_high_14 : decode cL_high 14 = .ok (.iconst 1, 1) := by decide +kernel
theorem dL_high_15 : decode cL_high 15 = .ok (.ireturn, 1) := by decide +kernel
theorem dL_high_16 : decode cL_high 16 = .ok (.iconst 0, 1) := by decide +kernel
theorem dL_high_17 : decode cL_high 17 = .ok (.ireturn, 1) := by decide +kernel
theorem dL_low_0 : decode cL_low 0 = .ok (.aload_n 2, 1) := by decide +kernel
theorem dL_low_1 : decode cL_low 1 = .ok (.aload_n 0, 1) := by decide +kernel
theorem dL_low_2 : decode cL_low 2 = .ok (.iload_n 1, 1) := by decide +kernel
theorem dL_low_3 : decode cL_low 3 = .ok (.invokevirtual 73, 3) := by decide +kernel
theorem dL_low_6 : decode cL_low 6 = .ok (.i2l, 1) := by decide +kernel
theorem dL_low_7 : decode cL_low 7 = .ok (.putfield 13, 3) := by decide +kernel
theorem dL_low_10 : decode cL_low 10 = .ok (.goto 6, 3) := by decide +kernel
theorem dL_low_13 : decode cL_low 13 = .ok (.astore_n 3, 1) := by decide +kernel
theorem dL_low_14 : decode cL_low 14 = .ok (.iconst 1, 1) := by decide +kernel
theorem dL_low_15 : decode cL_low 15 = .ok (.ireturn, 1) := by decide +kernel
theorem dL_low_16 : decode cL_low 16 = .ok (.iconst 0, 1) := by decide +kernel
theorem dL_low_17 : decode cL_low 17 = .ok (.ireturn, 1) := by decide +kernel
theorem dL_count_0 : decode cL_count 0 = .ok (.aload 4, 2) := by decide +kernel
theorem dL_count_2 : decode cL_count 2 = .ok (.aload_n 0, 1) := by decide +kernel
theorem dL_count_3 : decode cL_count 3 = .ok (.iload_n 1, 1) := by decide +kernel
theorem dL_count_4 : decode cL_count 4 = .ok (.iload_n 2, 1) := by decide +kernel
theorem dL_count_5 : decode cL_count 5 = .ok (.iload_n 3, 1) := by decide +kernel
theorem dL_count_6 : decode cL_count 6 = .ok (.invokevirtual 76, 3) := by decide +kernel
theorem dL_count_9 : decode cL_count 9 = .ok (.i2l, 1) := by decide +kernel
theorem dL_count_10 : decode cL_count 10 = .ok (.putfield 13, 3) := by decide +kernel
theorem dL_count_13 : decode cL_count 13 = .ok (.goto 11, 3) := by decide +kernel
theorem dL_count_16 : decode cL_count 16 = .ok (.astore 5, 2) := by decide +kernel
theorem dL_count_18 : decode cL_count 18 = .ok (.iconst 1, 1) := by decide +kernel
theorem dL_count_19 : decode cL_count 19 = .ok (.ireturn, 1) := by decide +kernel
theorem dL_count_20 : decode cL_count 20 = .ok (.astore 5, 2) := by decide +kernel
theorem dL_count_22 : decode cL_count 22 = .ok (.iconst 2, 1) := by decide +kernel
theorem dL_count_23 : decode cL_count 23 = .ok (.ireturn, 1) := by decide +kernel
theorem dL_count_24 : decode cL_count 24 = .ok (.iconst 0, 1) := by decide +kernel
theorem dL_count_25 : decode cL_count 25 = .ok (.ireturn, 1) := by decide +kernel
theorem dL_compare_0 : decode cL_compare 0 = .ok (.aload 5, 2) := by decide +kernel
theorem dL_compare_2 : decode cL_compare 2 = .ok (.aload_n 0, 1) := by decide +kernel
theorem dL_compare_3 : decode cL_compare 3 = .ok (.iload_n 1, 1) := by decide +kernel
theorem dL_compare_4 : decode cL_compare 4 = .ok (.iload_n 2, 1) := by decide +kernel
theorem dL_compare_5 : decode cL_compare 5 = .ok (.iload_n 3, 1) := by decide +kernel
theorem dL_compare_6 : decode cL_compare 6 = .ok (.iload 4, 2) := by decide +kernel
theorem dL_compare_8 : decode cL_compare 8 = .ok (.invokevirtual 79, 3) := by decide +kernel
theorem dL_compare_11 : decode cL_compare 11 = .ok (.i2l, 1) := by decide +kernel
theorem dL_compare_12 : decode cL_compare 12 = .ok (.putfield 13, 3) := by decide +kernel
theorem dL_compare_15 : decode cL_compare 15 = .ok (.goto 7, 3) := by decide +kernel
theorem dL_compare_18 : decode cL_compare 18 = .ok (.astore 6, 2) := by decide +kernel
theorem dL_compare_20 : decode cL_compare 20 = .ok (.iconst 1, 1) := by decide +kernel
theorem dL_compare_21 : decode cL_compare 21 = .ok (.ireturn, 1) := by decide +kernel
theorem dL_compare_22 : decode cL_compare 22 = .ok (.iconst 0, 1) := by decide +kernel
theorem dL_compare_23 : decode cL_compare 23 = .ok (.ireturn, 1) := by decide +kernel
theorem dL_digit_0 : decode cL_digit 0 = .ok (.aload_n 3, 1) := by decide +kernel
theorem dL_digit_1 : decode cL_digit 1 = .ok (.aload_n 0, 1) := by decide +kernel
theorem dL_digit_2 : decode cL_digit 2 = .ok (.iload_n 1, 1) := by decide +kernel
theorem dL_digit_3 : decode cL_digit 3 = .ok (.iload_n 2, 1) := by decide +kernel
theorem dL_digit_4 : decode cL_digit 4 = .ok (.invokevirtual 83, 3) := by decide +kernel
theorem dL_digit_7 : decode cL_digit 7 = .ok (.i2l, 1) := by decide +kernel
theorem dL_digit_8 : decode cL_digit 8 = .ok (.putfield 13, 3) := by decide +kernel
theorem dL_digit_11 : decode cL_digit 11 = .ok (.goto 11, 3) := by decide +kernel
theorem dL_digit_14 : decode cL_digit 14 = .ok (.astore 4, 2) := by decide +kernel
theorem dL_digit_16 : decode cL_digit 16 = .ok (.iconst 1, 1) := by decide +kernel
theorem dL_digit_17 : decode cL_digit 17 = .ok (.ireturn, 1) := by decide +kernel
theorem dL_digit_18 : decode cL_digit 18 = .ok (.astore 4, 2) := by decide +kernel
theorem dL_digit_20 : decode cL_digit 20 = .ok (.iconst 2, 1) := by decide +kernel
theorem dL_digit_21 : decode cL_digit 21 = .ok (.ireturn, 1) := by decide +kernel
theorem dL_digit_22 : decode cL_digit 22 = .ok (.iconst 0, 1) := by decide +kernel
theorem dL_digit_23 : decode cL_digit 23 = .ok (.ireturn, 1) := by decide +kernel
theorem dL_bench_0 : decode cL_bench 0 = .ok (.aload_n 2, 1) := by decide +kernel
theorem dL_bench_1 : decode cL_bench 1 = .ok (.aload_n 0, 1) := by decide +kernel
theorem dL_bench_2 : decode cL_bench 2 = .ok (.iload_n 1, 1) := by decide +kernel
theorem dL_bench_3 : decode cL_bench 3 = .ok (.invokevirtual 87, 3) := by decide +kernel
theorem dL_bench_6 : decode cL_bench 6 = .ok (.i2l, 1) := by decide +kernel
theorem dL_bench_7 : decode cL_bench 7 = .ok (.putfield 13, 3) := by decide +kernel
theorem dL_bench_10 : decode cL_bench 10 = .ok (.goto 6, 3) := by decide +kernel
theorem dL_bench_13 : decode cL_bench 13 = .ok (.astore_n 3, 1) := by decide +kernel
theorem dL_bench_14 : decode cL_bench 14 = .ok (.iconst 1, 1) := by decide +kernel
theorem dL_bench_15 : decode cL_bench 15 = .ok (.ireturn, 1) := by decide +kernel
theorem dL_bench_16 : decode cL_bench 16 = .ok (.iconst 0, 1) := by decide +kernel
theorem dL_bench_17 : decode cL_bench 17 = .ok (.ireturn, 1) := by decide +kernel
theorem dL_isNumber_0 : decode cL_isNumber 0 = .ok (.aload_n 3, 1) := by decide +kernel
theorem dL_isNumber_1 : decode cL_isNumber 1 = .ok (.aload_n 0, 1) := by decide +kernel
theorem dL_isNumber_2 : decode cL_isNumber 2 = .ok (.iload_n 1, 1) := by decide +kernel
theorem dL_isNumber_3 : decode cL_isNumber 3 = .ok (.iload_n 2, 1) := by decide +kernel
theorem dL_isNumber_4 : decode cL_isNumber 4 = .ok (.invokevirtual 90, 3) := by decide +kernel
theorem dL_isNumber_7 : decode cL_isNumber 7 = .ok (.ifCond .eq 7, 3) := by decide +kernel
theorem dL_isNumber_10 : decode cL_isNumber 10 = .ok (.lconst 1, 1) := by decide +kernel
theorem dL_isNumber_11 : decode cL_isNumber 11 = .ok (.goto 4, 3) := by decide +kernel
theorem dL_isNumber_14 : decode cL_isNumber 14 = .ok (.lconst 0, 1) := by decide +kernel
theorem dL_isNumber_15 : decode cL_isNumber 15 = .ok (.putfield 13, 3) := by decide +kernel
theorem dL_isNumber_18 : decode cL_isNumber 18 = .ok (.goto 7, 3) := by decide +kernel
theorem dL_isNumber_21 : decode cL_isNumber 21 = .ok (.astore 4, 2) := by decide +kernel
theorem dL_isNumber_23 : decode cL_isNumber 23 = .ok (.iconst 1, 1) := by decide +kernel
theorem dL_isNumber_24 : decode cL_isNumber 24 = .ok (.ireturn, 1) := by decide +kernel
theorem dL_isNumber_25 : decode cL_isNumber 25 = .ok (.iconst 0, 1) := by decide +kernel
theorem dL_isNumber_26 : decode cL_isNumber 26 = .ok (.ireturn, 1) := by decide +kernel
theorem dL_would_0 : decode cL_would 0 = .ok (.aload 4, 2) := by decide +kernel
theorem dL_would_2 : decode cL_would 2 = .ok (.aload_n 0, 1) := by decide +kernel
theorem dL_would_3 : decode cL_would 3 = .ok (.iload_n 1, 1) := by decide +kernel
theorem dL_would_4 : decode cL_would 4 = .ok (.iload_n 2, 1) := by decide +kernel
theorem dL_would_5 : decode cL_would 5 = .ok (.iload_n 3, 1) := by decide +kernel
theorem dL_would_6 : decode cL_would 6 = .ok (.invokevirtual 93, 3) := by decide +kernel
theorem dL_would_9 : decode cL_would 9 = .ok (.i2l, 1) := by decide +kernel
theorem dL_would_10 : decode cL_would 10 = .ok (.putfield 13, 3) := by decide +kernel
theorem dL_would_13 : decode cL_would 13 = .ok (.goto 7, 3) := by decide +kernel
theorem dL_would_16 : decode cL_would 16 = .ok (.astore 5, 2) := by decide +kernel
theorem dL_would_18 : decode cL_would 18 = .ok (.iconst 1, 1) := by decide +kernel
theorem dL_would_19 : decode cL_would 19 = .ok (.ireturn, 1) := by decide +kernel
theorem dL_would_20 : decode cL_would 20 = .ok (.iconst 0, 1) := by decide +kernel
theorem dL_would_21 : decode cL_would 21 = .ok (.ireturn, 1) := by decide +kernel
theorem dL_written_0 : decode cL_written 0 = .ok (.aload 4, 2) := by decide +kernel
theorem dL_written_2 : decode cL_written 2 = .ok (.aload_n 0, 1) := by decide +kernel
theorem dL_written_3 : decode cL_written 3 = .ok (.iload_n 1, 1) := by decide +kernel
theorem dL_written_4 : decode cL_written 4 = .ok (.iload_n 2, 1) := by decide +kernel
theorem dL_written_5 : decode cL_written 5 = .ok (.iload_n 3, 1) := by decide +kernel
theorem dL_written_6 : decode cL_written 6 = .ok (.invokevirtual 96, 3) := by decide +kernel
theorem dL_written_9 : decode cL_written 9 = .ok (.putfield 100, 3) := by decide +kernel
theorem dL_written_12 : decode cL_written 12 = .ok (.goto 11, 3) := by decide +kernel
theorem dL_written_15 : decode cL_written 15 = .ok (.astore 5, 2) := by decide +kernel
theorem dL_written_17 : decode cL_written 17 = .ok (.iconst 1, 1) := by decide +kernel
theorem dL_written_18 : decode cL_written 18 = .ok (.ireturn, 1) := by decide +kernel
theorem dL_written_19 : decode cL_written 19 = .ok (.astore 5, 2) := by decide +kernel
theorem dL_written_21 : decode cL_written 21 = .ok (.iconst 2, 1) := by decide +kernel
theorem dL_written_22 : decode cL_written 22 = .ok (.ireturn, 1) := by decide +kernel
theorem dL_written_23 : decode cL_written 23 = .ok (.iconst 0, 1) := by decide +kernel
theorem dL_written_24 : decode cL_written 24 = .ok (.ireturn, 1) := by decide +kernel
theorem dL_same_0 : decode cL_same 0 = .ok (.aload_n 3, 1) := by decide +kernel
theorem dL_same_1 : decode cL_same 1 = .ok (.aload_n 0, 1) := by decide +kernel
theorem dL_same_2 : decode cL_same 2 = .ok (.iload_n 1, 1) := by decide +kernel
theorem dL_same_3 : decode cL_same 3 = .ok (.iload_n 2, 1) := by decide +kernel
theorem dL_same_4 : decode cL_same 4 = .ok (.invokevirtual 104, 3) := by decide +kernel
theorem dL_same_7 : decode cL_same 7 = .ok (.i2l, 1) := by decide +kernel
theorem dL_same_8 : decode cL_same 8 = .ok (.putfield 13, 3) := by decide +kernel
theorem dL_same_11 : decode cL_same 11 = .ok (.goto 7, 3) := by decide +kernel
theorem dL_same_14 : decode cL_same 14 = .ok (.astore 4, 2) := by decide +kernel
theorem dL_same_16 : decode cL_same 16 = .ok (.iconst 1, 1) := by decide +kernel
theorem dL_same_17 : decode cL_same 17 = .ok (.ireturn, 1) := by decide +kernel
theorem dL_same_18 : decode cL_same 18 = .ok (.iconst 0, 1) := by decide +kernel
theorem dL_same_19 : decode cL_same 19 = .ok (.ireturn, 1) := by decide +kernel
