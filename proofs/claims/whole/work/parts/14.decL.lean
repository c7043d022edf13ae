theorem d_L_set_0 : decode b_L_set 0 = .ok (.aload_n 0, 1) := by decide +kernel
theorem d_L_set_1 : decode b_L_set 1 = .ok (.iload_n 1, 1) := by decide +kernel
theorem d_L_set_2 : decode b_L_set 2 = .ok (.lload_n 2, 1) := by decide +kernel
theorem d_L_set_3 : decode b_L_set 3 = .ok (.lload 4, 2) := by decide +kernel
theorem d_L_set_5 : decode b_L_set 5 = .ok (.invokevirtual 7, 3) := by decide +kernel
theorem d_L_set_8 : decode b_L_set 8 = .ok (.goto 7, 3) := by decide +kernel
theorem d_L_set_11 : decode b_L_set 11 = .ok (.astore 6, 2) := by decide +kernel
theorem d_L_set_13 : decode b_L_set 13 = .ok (.iconst 1, 1) := by decide +kernel
theorem d_L_set_14 : decode b_L_set 14 = .ok (.ireturn, 1) := by decide +kernel
theorem d_L_set_15 : decode b_L_set 15 = .ok (.iconst 0, 1) := by decide +kernel
theorem d_L_set_16 : decode b_L_set 16 = .ok (.ireturn, 1) := by decide +kernel
theorem d_L_half_0 : decode b_L_half 0 = .ok (.aload_n 3, 1) := by decide +kernel
theorem d_L_half_1 : decode b_L_half 1 = .ok (.iconst 0, 1) := by decide +kernel
theorem d_L_half_2 : decode b_L_half 2 = .ok (.aload_n 0, 1) := by decide +kernel
theorem d_L_half_3 : decode b_L_half 3 = .ok (.iload_n 1, 1) := by decide +kernel
theorem d_L_half_4 : decode b_L_half 4 = .ok (.iload_n 2, 1) := by decide +kernel
theorem d_L_half_5 : decode b_L_half 5 = .ok (.invokevirtual 15, 3) := by decide +kernel
theorem d_L_half_8 : decode b_L_half 8 = .ok (.lastore, 1) := by decide +kernel
theorem d_L_half_9 : decode b_L_half 9 = .ok (.goto 7, 3) := by decide +kernel
theorem d_L_half_12 : decode b_L_half 12 = .ok (.astore 4, 2) := by decide +kernel
theorem d_L_half_14 : decode b_L_half 14 = .ok (.iconst 1, 1) := by decide +kernel
theorem d_L_half_15 : decode b_L_half 15 = .ok (.ireturn, 1) := by decide +kernel
theorem d_L_half_16 : decode b_L_half 16 = .ok (.iconst 0, 1) := by decide +kernel
theorem d_L_half_17 : decode b_L_half 17 = .ok (.ireturn, 1) := by decide +kernel
theorem d_L_add_0 : decode b_L_add 0 = .ok (.aload 4, 2) := by decide +kernel
theorem d_L_add_2 : decode b_L_add 2 = .ok (.iconst 0, 1) := by decide +kernel
theorem d_L_add_3 : decode b_L_add 3 = .ok (.aload_n 0, 1) := by decide +kernel
theorem d_L_add_4 : decode b_L_add 4 = .ok (.iload_n 1, 1) := by decide +kernel
theorem d_L_add_5 : decode b_L_add 5 = .ok (.iload_n 2, 1) := by decide +kernel
theorem d_L_add_6 : decode b_L_add 6 = .ok (.iload_n 3, 1) := by decide +kernel
theorem d_L_add_7 : decode b_L_add 7 = .ok (.invokevirtual 19, 3) := by decide +kernel
theorem d_L_add_10 : decode b_L_add 10 = .ok (.ifCond .eq 7, 3) := by decide +kernel
theorem d_L_add_13 : decode b_L_add 13 = .ok (.lconst 1, 1) := by decide +kernel
theorem d_L_add_14 : decode b_L_add 14 = .ok (.goto 4, 3) := by decide +kernel
theorem d_L_add_17 : decode b_L_add 17 = .ok (.lconst 0, 1) := by decide +kernel
theorem d_L_add_18 : decode b_L_add 18 = .ok (.lastore, 1) := by decide +kernel
theorem d_L_add_19 : decode b_L_add 19 = .ok (.goto 7, 3) := by decide +kernel
theorem d_L_add_22 : decode b_L_add 22 = .ok (.astore 5, 2) := by decide +kernel
theorem d_L_add_24 : decode b_L_add 24 = .ok (.iconst 1, 1) := by decide +kernel
theorem d_L_add_25 : decode b_L_add 25 = .ok (.ireturn, 1) := by decide +kernel
theorem d_L_add_26 : decode b_L_add 26 = .ok (.iconst 0, 1) := by decide +kernel
theorem d_L_add_27 : decode b_L_add 27 = .ok (.ireturn, 1) := by decide +kernel
theorem d_L_subtract_0 : decode b_L_subtract 0 = .ok (.aload 4, 2) := by decide +kernel
theorem d_L_subtract_2 : decode b_L_subtract 2 = .ok (.iconst 0, 1) := by decide +kernel
theorem d_L_subtract_3 : decode b_L_subtract 3 = .ok (.aload_n 0, 1) := by decide +kernel
theorem d_L_subtract_4 : decode b_L_subtract 4 = .ok (.iload_n 1, 1) := by decide +kernel
theorem d_L_subtract_5 : decode b_L_subtract 5 = .ok (.iload_n 2, 1) := by decide +kernel
theorem d_L_subtract_6 : decode b_L_subtract 6 = .ok (.iload_n 3, 1) := by decide +kernel
theorem d_L_subtract_7 : decode b_L_subtract 7 = .ok (.invokevirtual 23, 3) := by decide +kernel
theorem d_L_subtract_10 : decode b_L_subtract 10 = .ok (.ifCond .eq 7, 3) := by decide +kernel
theorem d_L_subtract_13 : decode b_L_subtract 13 = .ok (.lconst 1, 1) := by decide +kernel
theorem d_L_subtract_14 : decode b_L_subtract 14 = .ok (.goto 4, 3) := by decide +kernel
theorem d_L_subtract_17 : decode b_L_subtract 17 = .ok (.lconst 0, 1) := by decide +kernel
theorem d_L_subtract_18 : decode b_L_subtract 18 = .ok (.lastore, 1) := by decide +kernel
theorem d_L_subtract_19 : decode b_L_subtract 19 = .ok (.goto 7, 3) := by decide +kernel
theorem d_L_subtract_22 : decode b_L_subtract 22 = .ok (.astore 5, 2) := by decide +kernel
theorem d_L_subtract_24 : decode b_L_subtract 24 = .ok (.iconst 1, 1) := by decide +kernel
theorem d_L_subtract_25 : decode b_L_subtract 25 = .ok (.ireturn, 1) := by decide +kernel
theorem d_L_subtract_26 : decode b_L_subtract 26 = .ok (.iconst 0, 1) := by decide +kernel
theorem d_L_subtract_27 : decode b_L_subtract 27 = .ok (.ireturn, 1) := by decide +kernel
theorem d_L_multiply_0 : decode b_L_multiply 0 = .ok (.aload_n 0, 1) := by decide +kernel
theorem d_L_multiply_1 : decode b_L_multiply 1 = .ok (.iload_n 1, 1) := by decide +kernel
theorem d_L_multiply_2 : decode b_L_multiply 2 = .ok (.iload_n 2, 1) := by decide +kernel
theorem d_L_multiply_3 : decode b_L_multiply 3 = .ok (.iload_n 3, 1) := by decide +kernel
theorem d_L_multiply_4 : decode b_L_multiply 4 = .ok (.iload 4, 2) := by decide +kernel
theorem d_L_multiply_6 : decode b_L_multiply 6 = .ok (.invokevirtual 26, 3) := by decide +kernel
theorem d_L_multiply_9 : decode b_L_multiply 9 = .ok (.goto 11, 3) := by decide +kernel
theorem d_L_multiply_12 : decode b_L_multiply 12 = .ok (.astore 5, 2) := by decide +kernel
theorem d_L_multiply_14 : decode b_L_multiply 14 = .ok (.iconst 1, 1) := by decide +kernel
theorem d_L_multiply_15 : decode b_L_multiply 15 = .ok (.ireturn, 1) := by decide +kernel
theorem d_L_multiply_16 : decode b_L_multiply 16 = .ok (.astore 5, 2) := by decide +kernel
theorem d_L_multiply_18 : decode b_L_multiply 18 = .ok (.iconst 2, 1) := by decide +kernel
theorem d_L_multiply_19 : decode b_L_multiply 19 = .ok (.ireturn, 1) := by decide +kernel
theorem d_L_multiply_20 : decode b_L_multiply 20 = .ok (.iconst 0, 1) := by decide +kernel
theorem d_L_multiply_21 : decode b_L_multiply 21 = .ok (.ireturn, 1) := by decide +kernel
theorem d_L_divide_0 : decode b_L_divide 0 = .ok (.aload_n 0, 1) := by decide +kernel
theorem d_L_divide_1 : decode b_L_divide 1 = .ok (.iload_n 1, 1) := by decide +kernel
theorem d_L_divide_2 : decode b_L_divide 2 = .ok (.iload_n 2, 1) := by decide +kernel
theorem d_L_divide_3 : decode b_L_divide 3 = .ok (.iload_n 3, 1) := by decide +kernel
theorem d_L_divide_4 : decode b_L_divide 4 = .ok (.iload 4, 2) := by decide +kernel
theorem d_L_divide_6 : decode b_L_divide 6 = .ok (.invokevirtual 32, 3) := by decide +kernel
theorem d_L_divide_9 : decode b_L_divide 9 = .ok (.goto 15, 3) := by decide +kernel
theorem d_L_divide_12 : decode b_L_divide 12 = .ok (.astore 5, 2) := by decide +kernel
theorem d_L_divide_14 : decode b_L_divide 14 = .ok (.iconst 1, 1) := by decide +kernel
theorem d_L_divide_15 : decode b_L_divide 15 = .ok (.ireturn, 1) := by decide +kernel
theorem d_L_divide_16 : decode b_L_divide 16 = .ok (.astore 5, 2) := by decide +kernel
theorem d_L_divide_18 : decode b_L_divide 18 = .ok (.iconst 2, 1) := by decide +kernel
theorem d_L_divide_19 : decode b_L_divide 19 = .ok (.ireturn, 1) := by decide +kernel
theorem d_L_divide_20 : decode b_L_divide 20 = .ok (.astore 5, 2) := by decide +kernel
theorem d_L_divide_22 : decode b_L_divide 22 = .ok (.iconst 3, 1) := by decide +kernel
theorem d_L_divide_23 : decode b_L_divide 23 = .ok (.ireturn, 1) := by decide +kernel
theorem d_L_divide_24 : decode b_L_divide 24 = .ok (.iconst 0, 1) := by decide +kernel
theorem d_L_divide_25 : decode b_L_divide 25 = .ok (.ireturn, 1) := by decide +kernel
theorem d_L_root_0 : decode b_L_root 0 = .ok (.aload_n 0, 1) := by decide +kernel
theorem d_L_root_1 : decode b_L_root 1 = .ok (.iload_n 1, 1) := by decide +kernel
theorem d_L_root_2 : decode b_L_root 2 = .ok (.iload_n 2, 1) := by decide +kernel
theorem d_L_root_3 : decode b_L_root 3 = .ok (.iload_n 3, 1) := by decide +kernel
theorem d_L_root_4 : decode b_L_root 4 = .ok (.invokevirtual 37, 3) := by decide +kernel
theorem d_L_root_7 : decode b_L_root 7 = .ok (.goto 11, 3) := by decide +kernel
theorem d_L_root_10 : decode b_L_root 10 = .ok (.astore 4, 2) := by decide +kernel
theorem d_L_root_12 : decode b_L_root 12 = .ok (.iconst 1, 1) := by decide +kernel
theorem d_L_root_13 : decode b_L_root 13 = .ok (.ireturn, 1) := by decide +kernel
theorem d_L_root_14 : decode b_L_root 14 = .ok (.astore 4, 2) := by decide +kernel
theorem d_L_root_16 : decode b_L_root 16 = .ok (.iconst 2, 1) := by decide +kernel
theorem d_L_root_17 : decode b_L_root 17 = .ok (.ireturn, 1) := by decide +kernel
theorem d_L_root_18 : decode b_L_root 18 = .ok (.iconst 0, 1) := by decide +kernel
theorem d_L_root_19 : decode b_L_root 19 = .ok (.ireturn, 1) := by decide +kernel
theorem d_L_shift_0 : decode b_L_shift 0 = .ok (.aload 4, 2) := by decide +kernel
theorem d_L_shift_2 : decode b_L_shift 2 = .ok (.iconst 0, 1) := by decide +kernel
theorem d_L_shift_3 : decode b_L_shift 3 = .ok (.aload_n 0, 1) := by decide +kernel
theorem d_L_shift_4 : decode b_L_shift 4 = .ok (.iload_n 1, 1) := by decide +kernel
theorem d_L_shift_5 : decode b_L_shift 5 = .ok (.iload_n 2, 1) := by decide +kernel
theorem d_L_shift_6 : decode b_L_shift 6 = .ok (.iload_n 3, 1) := by decide +kernel
theorem d_L_shift_7 : decode b_L_shift 7 = .ok (.invokevirtual 41, 3) := by decide +kernel
theorem d_L_shift_10 : decode b_L_shift 10 = .ok (.ifCond .eq 7, 3) := by decide +kernel
theorem d_L_shift_13 : decode b_L_shift 13 = .ok (.lconst 1, 1) := by decide +kernel
theorem d_L_shift_14 : decode b_L_shift 14 = .ok (.goto 4, 3) := by decide +kernel
theorem d_L_shift_17 : decode b_L_shift 17 = .ok (.lconst 0, 1) := by decide +kernel
theorem d_L_shift_18 : decode b_L_shift 18 = .ok (.lastore, 1) := by decide +kernel
theorem d_L_shift_19 : decode b_L_shift 19 = .ok (.goto 7, 3) := by decide +kernel
theorem d_L_shift_22 : decode b_L_shift 22 = .ok (.astore 5, 2) := by decide +kernel
theorem d_L_shift_24 : decode b_L_shift 24 = .ok (.iconst 1, 1) := by decide +kernel
theorem d_L_shift_25 : decode b_L_shift 25 = .ok (.ireturn, 1) := by decide +kernel
theorem d_L_shift_26 : decode b_L_shift 26 = .ok (.iconst 0, 1) := by decide +kernel
theorem d_L_shift_27 : decode b_L_shift 27 = .ok (.ireturn, 1) := by decide +kernel
theorem d_L_jam_0 : decode b_L_jam 0 = .ok (.aload_n 0, 1) := by decide +kernel
theorem d_L_jam_1 : decode b_L_jam 1 = .ok (.iload_n 1, 1) := by decide +kernel
theorem d_L_jam_2 : decode b_L_jam 2 = .ok (.iload_n 2, 1) := by decide +kernel
theorem d_L_jam_3 : decode b_L_jam 3 = .ok (.iload_n 3, 1) := by decide +kernel
theorem d_L_jam_4 : decode b_L_jam 4 = .ok (.invokevirtual 44, 3) := by decide +kernel
theorem d_L_jam_7 : decode b_L_jam 7 = .ok (.goto 11, 3) := by decide +kernel
theorem d_L_jam_10 : decode b_L_jam 10 = .ok (.astore 4, 2) := by decide +kernel
theorem d_L_jam_12 : decode b_L_jam 12 = .ok (.iconst 1, 1) := by decide +kernel
theorem d_L_jam_13 : decode b_L_jam 13 = .ok (.ireturn, 1) := by decide +kernel
theorem d_L_jam_14 : decode b_L_jam 14 = .ok (.astore 4, 2) := by decide +kernel
theorem d_L_jam_16 : decode b_L_jam 16 = .ok (.iconst 2, 1) := by decide +kernel
theorem d_L_jam_17 : decode b_L_jam 17 = .ok (.ireturn, 1) := by decide +kernel
theorem d_L_jam_18 : decode b_L_jam 18 = .ok (.iconst 0, 1) := by decide +kernel
theorem d_L_jam_19 : decode b_L_jam 19 = .ok (.ireturn, 1) := by decide +kernel
theorem d_L_zeros_0 : decode b_L_zeros 0 = .ok (.aload_n 2, 1) := by decide +kernel
theorem d_L_zeros_1 : decode b_L_zeros 1 = .ok (.iconst 0, 1) := by decide +kernel
theorem d_L_zeros_2 : decode b_L_zeros 2 = .ok (.aload_n 0, 1) := by decide +kernel
theorem d_L_zeros_3 : decode b_L_zeros 3 = .ok (.iload_n 1, 1) := by decide +kernel
theorem d_L_zeros_4 : decode b_L_zeros 4 = .ok (.invokevirtual 47, 3) := by decide +kernel
theorem d_L_zeros_7 : decode b_L_zeros 7 = .ok (.i2l, 1) := by decide +kernel
theorem d_L_zeros_8 : decode b_L_zeros 8 = .ok (.lastore, 1) := by decide +kernel
theorem d_L_zeros_9 : decode b_L_zeros 9 = .ok (.goto 6, 3) := by decide +kernel
theorem d_L_zeros_12 : decode b_L_zeros 12 = .ok (.astore_n 3, 1) := by decide +kernel
theorem d_L_zeros_13 : decode b_L_zeros 13 = .ok (.iconst 1, 1) := by decide +kernel
theorem d_L_zeros_14 : decode b_L_zeros 14 = .ok (.ireturn, 1) := by decide +kernel
theorem d_L_zeros_15 : decode b_L_zeros 15 = .ok (.iconst 0, 1) := by decide +kernel
theorem d_L_zeros_16 : decode b_L_zeros 16 = .ok (.ireturn, 1) := by decide +kernel
theorem d_L_compare_0 : decode b_L_compare 0 = .ok (.aload_n 3, 1) := by decide +kernel
theorem d_L_compare_1 : decode b_L_compare 1 = .ok (.iconst 0, 1) := by decide +kernel
theorem d_L_compare_2 : decode b_L_compare 2 = .ok (.aload_n 0, 1) := by decide +kernel
theorem d_L_compare_3 : decode b_L_compare 3 = .ok (.iload_n 1, 1) := by decide +kernel
theorem d_L_compare_4 : decode b_L_compare 4 = .ok (.iload_n 2, 1) := by decide +kernel
theorem d_L_compare_5 : decode b_L_compare 5 = .ok (.invokevirtual 51, 3) := by decide +kernel
theorem d_L_compare_8 : decode b_L_compare 8 = .ok (.i2l, 1) := by decide +kernel
theorem d_L_compare_9 : decode b_L_compare 9 = .ok (.lastore, 1) := by decide +kernel
theorem d_L_compare_10 : decode b_L_compare 10 = .ok (.goto 7, 3) := by decide +kernel
theorem d_L_compare_13 : decode b_L_compare 13 = .ok (.astore 4, 2) := by decide +kernel
theorem d_L_compare_15 : decode b_L_compare 15 = .ok (.iconst 1, 1) := by decide +kernel
theorem d_L_compare_16 : decode b_L_compare 16 = .ok (.ireturn, 1) := by decide +kernel
theorem d_L_compare_17 : decode b_L_compare 17 = .ok (.iconst 0, 1) := by decide +kernel
theorem d_L_compare_18 : decode b_L_compare 18 = .ok (.ireturn, 1) := by decide +kernel
theorem d_L_digits_0 : decode b_L_digits 0 = .ok (.aload_n 2, 1) := by decide +kernel
theorem d_L_digits_1 : decode b_L_digits 1 = .ok (.iconst 0, 1) := by decide +kernel
theorem d_L_digits_2 : decode b_L_digits 2 = .ok (.aload_n 0, 1) := by decide +kernel
theorem d_L_digits_3 : decode b_L_digits 3 = .ok (.iload_n 1, 1) := by decide +kernel
theorem d_L_digits_4 : decode b_L_digits 4 = .ok (.invokevirtual 55, 3) := by decide +kernel
theorem d_L_digits_7 : decode b_L_digits 7 = .ok (.i2l, 1) := by decide +kernel
theorem d_L_digits_8 : decode b_L_digits 8 = .ok (.lastore, 1) := by decide +kernel
theorem d_L_digits_9 : decode b_L_digits 9 = .ok (.goto 6, 3) := by decide +kernel
theorem d_L_digits_12 : decode b_L_digits 12 = .ok (.astore_n 3, 1) := by decide +kernel
theorem d_L_digits_13 : decode b_L_digits 13 = .ok (.iconst 1, 1) := by decide +kernel
theorem d_L_digits_14 : decode b_L_digits 14 = .ok (.ireturn, 1) := by decide +kernel
theorem d_L_digits_15 : decode b_L_digits 15 = .ok (.iconst 0, 1) := by decide +kernel
theorem d_L_digits_16 : decode b_L_digits 16 = .ok (.ireturn, 1) := by decide +kernel
theorem d_L_next_0 : decode b_L_next 0 = .ok (.aload_n 3, 1) := by decide +kernel
theorem d_L_next_1 : decode b_L_next 1 = .ok (.iconst 0, 1) := by decide +kernel
theorem d_L_next_2 : decode b_L_next 2 = .ok (.aload_n 0, 1) := by decide +kernel
theorem d_L_next_3 : decode b_L_next 3 = .ok (.iload_n 1, 1) := by decide +kernel
theorem d_L_next_4 : decode b_L_next 4 = .ok (.iload_n 2, 1) := by decide +kernel
theorem d_L_next_5 : decode b_L_next 5 = .ok (.invokevirtual 58, 3) := by decide +kernel
theorem d_L_next_8 : decode b_L_next 8 = .ok (.ifCond .eq 7, 3) := by decide +kernel
theorem d_L_next_11 : decode b_L_next 11 = .ok (.lconst 1, 1) := by decide +kernel
theorem d_L_next_12 : decode b_L_next 12 = .ok (.goto 4, 3) := by decide +kernel
theorem d_L_next_15 : decode b_L_next 15 = .ok (.lconst 0, 1) := by decide +kernel
theorem d_L_next_16 : decode b_L_next 16 = .ok (.lastore, 1) := by decide +kernel
theorem d_L_next_17 : decode b_L_next 17 = .ok (.goto 11, 3) := by decide +kernel
theorem d_L_next_20 : decode b_L_next 20 = .ok (.astore 4, 2) := by decide +kernel
theorem d_L_next_22 : decode b_L_next 22 = .ok (.iconst 1, 1) := by decide +kernel
theorem d_L_next_23 : decode b_L_next 23 = .ok (.ireturn, 1) := by decide +kernel
theorem d_L_next_24 : decode b_L_next 24 = .ok (.astore 4, 2) := by decide +kernel
theorem d_L_next_26 : decode b_L_next 26 = .ok (.iconst 2, 1) := by decide +kernel
theorem d_L_next_27 : decode b_L_next 27 = .ok (.ireturn, 1) := by decide +kernel
theorem d_L_next_28 : decode b_L_next 28 = .ok (.iconst 0, 1) := by decide +kernel
theorem d_L_next_29 : decode b_L_next 29 = .ok (.ireturn, 1) := by decide +kernel
