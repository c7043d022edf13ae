theorem d_X_init_0 : decode b_X_init 0 = .ok (.aload_n 0, 1) := by decide +kernel
theorem d_X_init_1 : decode b_X_init 1 = .ok (.invokespecial 1, 3) := by decide +kernel
theorem d_X_init_4 : decode b_X_init 4 = .ok (.aload_n 0, 1) := by decide +kernel
theorem d_X_init_5 : decode b_X_init 5 = .ok (.bipush 8, 2) := by decide +kernel
theorem d_X_init_7 : decode b_X_init 7 = .ok (.newarray .long, 2) := by decide +kernel
theorem d_X_init_9 : decode b_X_init 9 = .ok (.putfield 9, 3) := by decide +kernel
theorem d_X_init_12 : decode b_X_init 12 = .ok (.aload_n 0, 1) := by decide +kernel
theorem d_X_init_13 : decode b_X_init 13 = .ok (.bipush 8, 2) := by decide +kernel
theorem d_X_init_15 : decode b_X_init 15 = .ok (.newarray .long, 2) := by decide +kernel
theorem d_X_init_17 : decode b_X_init 17 = .ok (.putfield 13, 3) := by decide +kernel
theorem d_X_init_20 : decode b_X_init 20 = .ok (.aload_n 0, 1) := by decide +kernel
theorem d_X_init_21 : decode b_X_init 21 = .ok (.iconst 4, 1) := by decide +kernel
theorem d_X_init_22 : decode b_X_init 22 = .ok (.newarray .long, 2) := by decide +kernel
theorem d_X_init_24 : decode b_X_init 24 = .ok (.putfield 16, 3) := by decide +kernel
theorem d_X_init_27 : decode b_X_init 27 = .ok (.aload_n 0, 1) := by decide +kernel
theorem d_X_init_28 : decode b_X_init 28 = .ok (.bipush 39, 2) := by decide +kernel
theorem d_X_init_30 : decode b_X_init 30 = .ok (.newarray .int, 2) := by decide +kernel
theorem d_X_init_32 : decode b_X_init 32 = .ok (.putfield 19, 3) := by decide +kernel
theorem d_X_init_35 : decode b_X_init 35 = .ok (.aload_n 0, 1) := by decide +kernel
theorem d_X_init_36 : decode b_X_init 36 = .ok (.bipush 39, 2) := by decide +kernel
theorem d_X_init_38 : decode b_X_init 38 = .ok (.putfield 23, 3) := by decide +kernel
theorem d_X_init_41 : decode b_X_init 41 = .ok (.return_, 1) := by decide +kernel
theorem d_X_digit_0 : decode b_X_digit 0 = .ok (.iload_n 1, 1) := by decide +kernel
theorem d_X_digit_1 : decode b_X_digit 1 = .ok (.ifCond .lt 14, 3) := by decide +kernel
theorem d_X_digit_4 : decode b_X_digit 4 = .ok (.iload_n 1, 1) := by decide +kernel
theorem d_X_digit_5 : decode b_X_digit 5 = .ok (.bipush 39, 2) := by decide +kernel
theorem d_X_digit_7 : decode b_X_digit 7 = .ok (.aload_n 0, 1) := by decide +kernel
theorem d_X_digit_8 : decode b_X_digit 8 = .ok (.getfield 23, 3) := by decide +kernel
theorem d_X_digit_11 : decode b_X_digit 11 = .ok (.isub, 1) := by decide +kernel
theorem d_X_digit_12 : decode b_X_digit 12 = .ok (.if_icmp .lt 5, 3) := by decide +kernel
theorem d_X_digit_15 : decode b_X_digit 15 = .ok (.iconst (-1), 1) := by decide +kernel
theorem d_X_digit_16 : decode b_X_digit 16 = .ok (.ireturn, 1) := by decide +kernel
theorem d_X_digit_17 : decode b_X_digit 17 = .ok (.aload_n 0, 1) := by decide +kernel
theorem d_X_digit_18 : decode b_X_digit 18 = .ok (.getfield 19, 3) := by decide +kernel
theorem d_X_digit_21 : decode b_X_digit 21 = .ok (.aload_n 0, 1) := by decide +kernel
theorem d_X_digit_22 : decode b_X_digit 22 = .ok (.getfield 23, 3) := by decide +kernel
theorem d_X_digit_25 : decode b_X_digit 25 = .ok (.iload_n 1, 1) := by decide +kernel
theorem d_X_digit_26 : decode b_X_digit 26 = .ok (.iadd, 1) := by decide +kernel
theorem d_X_digit_27 : decode b_X_digit 27 = .ok (.iaload, 1) := by decide +kernel
theorem d_X_digit_28 : decode b_X_digit 28 = .ok (.ireturn, 1) := by decide +kernel
theorem d_X_set_0 : decode b_X_set 0 = .ok (.iload_n 1, 1) := by decide +kernel
theorem d_X_set_1 : decode b_X_set 1 = .ok (.invokestatic 27, 3) := by decide +kernel
theorem d_X_set_4 : decode b_X_set 4 = .ok (.aload_n 0, 1) := by decide +kernel
theorem d_X_set_5 : decode b_X_set 5 = .ok (.iload_n 1, 1) := by decide +kernel
theorem d_X_set_6 : decode b_X_set 6 = .ok (.lload_n 2, 1) := by decide +kernel
theorem d_X_set_7 : decode b_X_set 7 = .ok (.lload 4, 2) := by decide +kernel
theorem d_X_set_9 : decode b_X_set 9 = .ok (.invokevirtual 31, 3) := by decide +kernel
theorem d_X_set_12 : decode b_X_set 12 = .ok (.return_, 1) := by decide +kernel
theorem d_X_checkRegister_0 : decode b_X_checkRegister 0 = .ok (.iload_n 0, 1) := by decide +kernel
theorem d_X_checkRegister_1 : decode b_X_checkRegister 1 = .ok (.ifCond .lt 9, 3) := by decide +kernel
theorem d_X_checkRegister_4 : decode b_X_checkRegister 4 = .ok (.iload_n 0, 1) := by decide +kernel
theorem d_X_checkRegister_5 : decode b_X_checkRegister 5 = .ok (.bipush 8, 2) := by decide +kernel
theorem d_X_checkRegister_7 : decode b_X_checkRegister 7 = .ok (.if_icmp .lt 13, 3) := by decide +kernel
theorem d_X_checkRegister_10 : decode b_X_checkRegister 10 = .ok (.new 100, 3) := by decide +kernel
theorem d_X_checkRegister_13 : decode b_X_checkRegister 13 = .ok (.dup, 1) := by decide +kernel
theorem d_X_checkRegister_14 : decode b_X_checkRegister 14 = .ok (.ldc 102, 2) := by decide +kernel
theorem d_X_checkRegister_16 : decode b_X_checkRegister 16 = .ok (.invokespecial 104, 3) := by decide +kernel
theorem d_X_checkRegister_19 : decode b_X_checkRegister 19 = .ok (.athrow, 1) := by decide +kernel
theorem d_X_checkRegister_20 : decode b_X_checkRegister 20 = .ok (.return_, 1) := by decide +kernel
theorem d_X_store_0 : decode b_X_store 0 = .ok (.aload_n 0, 1) := by decide +kernel
theorem d_X_store_1 : decode b_X_store 1 = .ok (.getfield 9, 3) := by decide +kernel
theorem d_X_store_4 : decode b_X_store 4 = .ok (.iload_n 1, 1) := by decide +kernel
theorem d_X_store_5 : decode b_X_store 5 = .ok (.lload_n 2, 1) := by decide +kernel
theorem d_X_store_6 : decode b_X_store 6 = .ok (.lastore, 1) := by decide +kernel
theorem d_X_store_7 : decode b_X_store 7 = .ok (.aload_n 0, 1) := by decide +kernel
theorem d_X_store_8 : decode b_X_store 8 = .ok (.getfield 13, 3) := by decide +kernel
theorem d_X_store_11 : decode b_X_store 11 = .ok (.iload_n 1, 1) := by decide +kernel
theorem d_X_store_12 : decode b_X_store 12 = .ok (.lload 4, 2) := by decide +kernel
theorem d_X_store_14 : decode b_X_store 14 = .ok (.lastore, 1) := by decide +kernel
theorem d_X_store_15 : decode b_X_store 15 = .ok (.return_, 1) := by decide +kernel
theorem d_X_half_0 : decode b_X_half 0 = .ok (.iload_n 1, 1) := by decide +kernel
theorem d_X_half_1 : decode b_X_half 1 = .ok (.invokestatic 27, 3) := by decide +kernel
theorem d_X_half_4 : decode b_X_half 4 = .ok (.iload_n 2, 1) := by decide +kernel
theorem d_X_half_5 : decode b_X_half 5 = .ok (.ifCond .eq 12, 3) := by decide +kernel
theorem d_X_half_8 : decode b_X_half 8 = .ok (.aload_n 0, 1) := by decide +kernel
theorem d_X_half_9 : decode b_X_half 9 = .ok (.getfield 9, 3) := by decide +kernel
theorem d_X_half_12 : decode b_X_half 12 = .ok (.iload_n 1, 1) := by decide +kernel
theorem d_X_half_13 : decode b_X_half 13 = .ok (.laload, 1) := by decide +kernel
theorem d_X_half_14 : decode b_X_half 14 = .ok (.goto 9, 3) := by decide +kernel
theorem d_X_half_17 : decode b_X_half 17 = .ok (.aload_n 0, 1) := by decide +kernel
theorem d_X_half_18 : decode b_X_half 18 = .ok (.getfield 13, 3) := by decide +kernel
theorem d_X_half_21 : decode b_X_half 21 = .ok (.iload_n 1, 1) := by decide +kernel
theorem d_X_half_22 : decode b_X_half 22 = .ok (.laload, 1) := by decide +kernel
theorem d_X_half_23 : decode b_X_half 23 = .ok (.lreturn, 1) := by decide +kernel
theorem d_X_add_0 : decode b_X_add 0 = .ok (.iload_n 1, 1) := by decide +kernel
theorem d_X_add_1 : decode b_X_add 1 = .ok (.invokestatic 27, 3) := by decide +kernel
theorem d_X_add_4 : decode b_X_add 4 = .ok (.iload_n 2, 1) := by decide +kernel
theorem d_X_add_5 : decode b_X_add 5 = .ok (.invokestatic 27, 3) := by decide +kernel
theorem d_X_add_8 : decode b_X_add 8 = .ok (.iload_n 3, 1) := by decide +kernel
theorem d_X_add_9 : decode b_X_add 9 = .ok (.invokestatic 27, 3) := by decide +kernel
theorem d_X_add_12 : decode b_X_add 12 = .ok (.aload_n 0, 1) := by decide +kernel
theorem d_X_add_13 : decode b_X_add 13 = .ok (.getfield 13, 3) := by decide +kernel
theorem d_X_add_16 : decode b_X_add 16 = .ok (.iload_n 1, 1) := by decide +kernel
theorem d_X_add_17 : decode b_X_add 17 = .ok (.laload, 1) := by decide +kernel
theorem d_X_add_18 : decode b_X_add 18 = .ok (.aload_n 0, 1) := by decide +kernel
theorem d_X_add_19 : decode b_X_add 19 = .ok (.getfield 13, 3) := by decide +kernel
theorem d_X_add_22 : decode b_X_add 22 = .ok (.iload_n 2, 1) := by decide +kernel
theorem d_X_add_23 : decode b_X_add 23 = .ok (.laload, 1) := by decide +kernel
theorem d_X_add_24 : decode b_X_add 24 = .ok (.ladd, 1) := by decide +kernel
theorem d_X_add_25 : decode b_X_add 25 = .ok (.lstore 4, 2) := by decide +kernel
theorem d_X_add_27 : decode b_X_add 27 = .ok (.lload 4, 2) := by decide +kernel
theorem d_X_add_29 : decode b_X_add 29 = .ok (.aload_n 0, 1) := by decide +kernel
theorem d_X_add_30 : decode b_X_add 30 = .ok (.getfield 13, 3) := by decide +kernel
theorem d_X_add_33 : decode b_X_add 33 = .ok (.iload_n 1, 1) := by decide +kernel
theorem d_X_add_34 : decode b_X_add 34 = .ok (.laload, 1) := by decide +kernel
theorem d_X_add_35 : decode b_X_add 35 = .ok (.invokestatic 35, 3) := by decide +kernel
theorem d_X_add_38 : decode b_X_add 38 = .ok (.lstore 6, 2) := by decide +kernel
theorem d_X_add_40 : decode b_X_add 40 = .ok (.aload_n 0, 1) := by decide +kernel
theorem d_X_add_41 : decode b_X_add 41 = .ok (.getfield 9, 3) := by decide +kernel
theorem d_X_add_44 : decode b_X_add 44 = .ok (.iload_n 1, 1) := by decide +kernel
theorem d_X_add_45 : decode b_X_add 45 = .ok (.laload, 1) := by decide +kernel
theorem d_X_add_46 : decode b_X_add 46 = .ok (.aload_n 0, 1) := by decide +kernel
theorem d_X_add_47 : decode b_X_add 47 = .ok (.getfield 9, 3) := by decide +kernel
theorem d_X_add_50 : decode b_X_add 50 = .ok (.iload_n 2, 1) := by decide +kernel
theorem d_X_add_51 : decode b_X_add 51 = .ok (.laload, 1) := by decide +kernel
theorem d_X_add_52 : decode b_X_add 52 = .ok (.ladd, 1) := by decide +kernel
theorem d_X_add_53 : decode b_X_add 53 = .ok (.lstore 8, 2) := by decide +kernel
theorem d_X_add_55 : decode b_X_add 55 = .ok (.lload 8, 2) := by decide +kernel
theorem d_X_add_57 : decode b_X_add 57 = .ok (.lload 6, 2) := by decide +kernel
theorem d_X_add_59 : decode b_X_add 59 = .ok (.ladd, 1) := by decide +kernel
theorem d_X_add_60 : decode b_X_add 60 = .ok (.lstore 10, 2) := by decide +kernel
theorem d_X_add_62 : decode b_X_add 62 = .ok (.lload 8, 2) := by decide +kernel
theorem d_X_add_64 : decode b_X_add 64 = .ok (.aload_n 0, 1) := by decide +kernel
theorem d_X_add_65 : decode b_X_add 65 = .ok (.getfield 9, 3) := by decide +kernel
theorem d_X_add_68 : decode b_X_add 68 = .ok (.iload_n 1, 1) := by decide +kernel
theorem d_X_add_69 : decode b_X_add 69 = .ok (.laload, 1) := by decide +kernel
theorem d_X_add_70 : decode b_X_add 70 = .ok (.invokestatic 35, 3) := by decide +kernel
theorem d_X_add_73 : decode b_X_add 73 = .ok (.lload 10, 2) := by decide +kernel
theorem d_X_add_75 : decode b_X_add 75 = .ok (.lload 6, 2) := by decide +kernel
theorem d_X_add_77 : decode b_X_add 77 = .ok (.invokestatic 35, 3) := by decide +kernel
theorem d_X_add_80 : decode b_X_add 80 = .ok (.ladd, 1) := by decide +kernel
theorem d_X_add_81 : decode b_X_add 81 = .ok (.lconst 0, 1) := by decide +kernel
theorem d_X_add_82 : decode b_X_add 82 = .ok (.lcmp, 1) := by decide +kernel
theorem d_X_add_83 : decode b_X_add 83 = .ok (.ifCond .eq 7, 3) := by decide +kernel
theorem d_X_add_86 : decode b_X_add 86 = .ok (.iconst 1, 1) := by decide +kernel
theorem d_X_add_87 : decode b_X_add 87 = .ok (.goto 4, 3) := by decide +kernel
theorem d_X_add_90 : decode b_X_add 90 = .ok (.iconst 0, 1) := by decide +kernel
theorem d_X_add_91 : decode b_X_add 91 = .ok (.istore 12, 2) := by decide +kernel
theorem d_X_add_93 : decode b_X_add 93 = .ok (.aload_n 0, 1) := by decide +kernel
theorem d_X_add_94 : decode b_X_add 94 = .ok (.iload_n 3, 1) := by decide +kernel
theorem d_X_add_95 : decode b_X_add 95 = .ok (.lload 10, 2) := by decide +kernel
theorem d_X_add_97 : decode b_X_add 97 = .ok (.lload 4, 2) := by decide +kernel
theorem d_X_add_99 : decode b_X_add 99 = .ok (.invokevirtual 31, 3) := by decide +kernel
theorem d_X_add_102 : decode b_X_add 102 = .ok (.iload 12, 2) := by decide +kernel
theorem d_X_add_104 : decode b_X_add 104 = .ok (.ireturn, 1) := by decide +kernel
theorem d_X_oneIfBelow_0 : decode b_X_oneIfBelow 0 = .ok (.lload_n 0, 1) := by decide +kernel
theorem d_X_oneIfBelow_1 : decode b_X_oneIfBelow 1 = .ok (.lload_n 2, 1) := by decide +kernel
theorem d_X_oneIfBelow_2 : decode b_X_oneIfBelow 2 = .ok (.invokestatic 107, 3) := by decide +kernel
theorem d_X_oneIfBelow_5 : decode b_X_oneIfBelow 5 = .ok (.ifCond .ge 7, 3) := by decide +kernel
theorem d_X_oneIfBelow_8 : decode b_X_oneIfBelow 8 = .ok (.lconst 1, 1) := by decide +kernel
theorem d_X_oneIfBelow_9 : decode b_X_oneIfBelow 9 = .ok (.goto 4, 3) := by decide +kernel
theorem d_X_oneIfBelow_12 : decode b_X_oneIfBelow 12 = .ok (.lconst 0, 1) := by decide +kernel
theorem d_X_oneIfBelow_13 : decode b_X_oneIfBelow 13 = .ok (.lreturn, 1) := by decide +kernel
theorem d_X_subtract_0 : decode b_X_subtract 0 = .ok (.iload_n 1, 1) := by decide +kernel
theorem d_X_subtract_1 : decode b_X_subtract 1 = .ok (.invokestatic 27, 3) := by decide +kernel
theorem d_X_subtract_4 : decode b_X_subtract 4 = .ok (.iload_n 2, 1) := by decide +kernel
theorem d_X_subtract_5 : decode b_X_subtract 5 = .ok (.invokestatic 27, 3) := by decide +kernel
theorem d_X_subtract_8 : decode b_X_subtract 8 = .ok (.iload_n 3, 1) := by decide +kernel
theorem d_X_subtract_9 : decode b_X_subtract 9 = .ok (.invokestatic 27, 3) := by decide +kernel
theorem d_X_subtract_12 : decode b_X_subtract 12 = .ok (.aload_n 0, 1) := by decide +kernel
theorem d_X_subtract_13 : decode b_X_subtract 13 = .ok (.getfield 9, 3) := by decide +kernel
theorem d_X_subtract_16 : decode b_X_subtract 16 = .ok (.iload_n 1, 1) := by decide +kernel
theorem d_X_subtract_17 : decode b_X_subtract 17 = .ok (.laload, 1) := by decide +kernel
theorem d_X_subtract_18 : decode b_X_subtract 18 = .ok (.aload_n 0, 1) := by decide +kernel
theorem d_X_subtract_19 : decode b_X_subtract 19 = .ok (.getfield 13, 3) := by decide +kernel
theorem d_X_subtract_22 : decode b_X_subtract 22 = .ok (.iload_n 1, 1) := by decide +kernel
theorem d_X_subtract_23 : decode b_X_subtract 23 = .ok (.laload, 1) := by decide +kernel
theorem d_X_subtract_24 : decode b_X_subtract 24 = .ok (.aload_n 0, 1) := by decide +kernel
theorem d_X_subtract_25 : decode b_X_subtract 25 = .ok (.getfield 9, 3) := by decide +kernel
theorem d_X_subtract_28 : decode b_X_subtract 28 = .ok (.iload_n 2, 1) := by decide +kernel
theorem d_X_subtract_29 : decode b_X_subtract 29 = .ok (.laload, 1) := by decide +kernel
theorem d_X_subtract_30 : decode b_X_subtract 30 = .ok (.aload_n 0, 1) := by decide +kernel
theorem d_X_subtract_31 : decode b_X_subtract 31 = .ok (.getfield 13, 3) := by decide +kernel
theorem d_X_subtract_34 : decode b_X_subtract 34 = .ok (.iload_n 2, 1) := by decide +kernel
theorem d_X_subtract_35 : decode b_X_subtract 35 = .ok (.laload, 1) := by decide +kernel
theorem d_X_subtract_36 : decode b_X_subtract 36 = .ok (.invokestatic 39, 3) := by decide +kernel
theorem d_X_subtract_39 : decode b_X_subtract 39 = .ok (.istore 4, 2) := by decide +kernel
theorem d_X_subtract_41 : decode b_X_subtract 41 = .ok (.aload_n 0, 1) := by decide +kernel
theorem d_X_subtract_42 : decode b_X_subtract 42 = .ok (.getfield 9, 3) := by decide +kernel
theorem d_X_subtract_45 : decode b_X_subtract 45 = .ok (.iload_n 1, 1) := by decide +kernel
theorem d_X_subtract_46 : decode b_X_subtract 46 = .ok (.laload, 1) := by decide +kernel
theorem d_X_subtract_47 : decode b_X_subtract 47 = .ok (.aload_n 0, 1) := by decide +kernel
theorem d_X_subtract_48 : decode b_X_subtract 48 = .ok (.getfield 9, 3) := by decide +kernel
theorem d_X_subtract_51 : decode b_X_subtract 51 = .ok (.iload_n 2, 1) := by decide +kernel
theorem d_X_subtract_52 : decode b_X_subtract 52 = .ok (.laload, 1) := by decide +kernel
theorem d_X_subtract_53 : decode b_X_subtract 53 = .ok (.lsub, 1) := by decide +kernel
theorem d_X_subtract_54 : decode b_X_subtract 54 = .ok (.aload_n 0, 1) := by decide +kernel
theorem d_X_subtract_55 : decode b_X_subtract 55 = .ok (.getfield 13, 3) := by decide +kernel
theorem d_X_subtract_58 : decode b_X_subtract 58 = .ok (.iload_n 1, 1) := by decide +kernel
theorem d_X_subtract_59 : decode b_X_subtract 59 = .ok (.laload, 1) := by decide +kernel
theorem d_X_subtract_60 : decode b_X_subtract 60 = .ok (.aload_n 0, 1) := by decide +kernel
theorem d_X_subtract_61 : decode b_X_subtract 61 = .ok (.getfield 13, 3) := by decide +kernel
theorem d_X_subtract_64 : decode b_X_subtract 64 = .ok (.iload_n 2, 1) := by decide +kernel
theorem d_X_subtract_65 : decode b_X_subtract 65 = .ok (.laload, 1) := by decide +kernel
theorem d_X_subtract_66 : decode b_X_subtract 66 = .ok (.invokestatic 35, 3) := by decide +kernel
theorem d_X_subtract_69 : decode b_X_subtract 69 = .ok (.lsub, 1) := by decide +kernel
theorem d_X_subtract_70 : decode b_X_subtract 70 = .ok (.lstore 5, 2) := by decide +kernel
theorem d_X_subtract_72 : decode b_X_subtract 72 = .ok (.aload_n 0, 1) := by decide +kernel
theorem d_X_subtract_73 : decode b_X_subtract 73 = .ok (.iload_n 3, 1) := by decide +kernel
theorem d_X_subtract_74 : decode b_X_subtract 74 = .ok (.lload 5, 2) := by decide +kernel
theorem d_X_subtract_76 : decode b_X_subtract 76 = .ok (.aload_n 0, 1) := by decide +kernel
theorem d_X_subtract_77 : decode b_X_subtract 77 = .ok (.getfield 13, 3) := by decide +kernel
theorem d_X_subtract_80 : decode b_X_subtract 80 = .ok (.iload_n 1, 1) := by decide +kernel
theorem d_X_subtract_81 : decode b_X_subtract 81 = .ok (.laload, 1) := by decide +kernel
theorem d_X_subtract_82 : decode b_X_subtract 82 = .ok (.aload_n 0, 1) := by decide +kernel
theorem d_X_subtract_83 : decode b_X_subtract 83 = .ok (.getfield 13, 3) := by decide +kernel
theorem d_X_subtract_86 : decode b_X_subtract 86 = .ok (.iload_n 2, 1) := by decide +kernel
theorem d_X_subtract_87 : decode b_X_subtract 87 = .ok (.laload, 1) := by decide +kernel
theorem d_X_subtract_88 : decode b_X_subtract 88 = .ok (.lsub, 1) := by decide +kernel
theorem d_X_subtract_89 : decode b_X_subtract 89 = .ok (.invokevirtual 31, 3) := by decide +kernel
theorem d_X_subtract_92 : decode b_X_subtract 92 = .ok (.iload 4, 2) := by decide +kernel
theorem d_X_subtract_94 : decode b_X_subtract 94 = .ok (.ireturn, 1) := by decide +kernel
theorem d_X_isBelow_0 : decode b_X_isBelow 0 = .ok (.lload_n 0, 1) := by decide +kernel
theorem d_X_isBelow_1 : decode b_X_isBelow 1 = .ok (.lload 4, 2) := by decide +kernel
theorem d_X_isBelow_3 : decode b_X_isBelow 3 = .ok (.invokestatic 107, 3) := by decide +kernel
theorem d_X_isBelow_6 : decode b_X_isBelow 6 = .ok (.istore 8, 2) := by decide +kernel
theorem d_X_isBelow_8 : decode b_X_isBelow 8 = .ok (.iload 8, 2) := by decide +kernel
theorem d_X_isBelow_10 : decode b_X_isBelow 10 = .ok (.ifCond .lt 17, 3) := by decide +kernel
theorem d_X_isBelow_13 : decode b_X_isBelow 13 = .ok (.iload 8, 2) := by decide +kernel
theorem d_X_isBelow_15 : decode b_X_isBelow 15 = .ok (.ifCond .ne 16, 3) := by decide +kernel
theorem d_X_isBelow_18 : decode b_X_isBelow 18 = .ok (.lload_n 2, 1) := by decide +kernel
theorem d_X_isBelow_19 : decode b_X_isBelow 19 = .ok (.lload 6, 2) := by decide +kernel
theorem d_X_isBelow_21 : decode b_X_isBelow 21 = .ok (.invokestatic 107, 3) := by decide +kernel
theorem d_X_isBelow_24 : decode b_X_isBelow 24 = .ok (.ifCond .ge 7, 3) := by decide +kernel
theorem d_X_isBelow_27 : decode b_X_isBelow 27 = .ok (.iconst 1, 1) := by decide +kernel
theorem d_X_isBelow_28 : decode b_X_isBelow 28 = .ok (.goto 4, 3) := by decide +kernel
theorem d_X_isBelow_31 : decode b_X_isBelow 31 = .ok (.iconst 0, 1) := by decide +kernel
theorem d_X_isBelow_32 : decode b_X_isBelow 32 = .ok (.ireturn, 1) := by decide +kernel
theorem d_X_multiply_0 : decode b_X_multiply 0 = .ok (.iload_n 1, 1) := by decide +kernel
theorem d_X_multiply_1 : decode b_X_multiply 1 = .ok (.invokestatic 27, 3) := by decide +kernel
theorem d_X_multiply_4 : decode b_X_multiply 4 = .ok (.iload_n 2, 1) := by decide +kernel
theorem d_X_multiply_5 : decode b_X_multiply 5 = .ok (.invokestatic 27, 3) := by decide +kernel
theorem d_X_multiply_8 : decode b_X_multiply 8 = .ok (.iload_n 3, 1) := by decide +kernel
theorem d_X_multiply_9 : decode b_X_multiply 9 = .ok (.invokestatic 27, 3) := by decide +kernel
theorem d_X_multiply_12 : decode b_X_multiply 12 = .ok (.iload 4, 2) := by decide +kernel
theorem d_X_multiply_14 : decode b_X_multiply 14 = .ok (.invokestatic 27, 3) := by decide +kernel
theorem d_X_multiply_17 : decode b_X_multiply 17 = .ok (.iload_n 3, 1) := by decide +kernel
theorem d_X_multiply_18 : decode b_X_multiply 18 = .ok (.iload 4, 2) := by decide +kernel
theorem d_X_multiply_20 : decode b_X_multiply 20 = .ok (.invokestatic 43, 3) := by decide +kernel
theorem d_X_multiply_23 : decode b_X_multiply 23 = .ok (.aload_n 0, 1) := by decide +kernel
theorem d_X_multiply_24 : decode b_X_multiply 24 = .ok (.aload_n 0, 1) := by decide +kernel
theorem d_X_multiply_25 : decode b_X_multiply 25 = .ok (.getfield 9, 3) := by decide +kernel
theorem d_X_multiply_28 : decode b_X_multiply 28 = .ok (.iload_n 1, 1) := by decide +kernel
theorem d_X_multiply_29 : decode b_X_multiply 29 = .ok (.laload, 1) := by decide +kernel
theorem d_X_multiply_30 : decode b_X_multiply 30 = .ok (.aload_n 0, 1) := by decide +kernel
theorem d_X_multiply_31 : decode b_X_multiply 31 = .ok (.getfield 13, 3) := by decide +kernel
theorem d_X_multiply_34 : decode b_X_multiply 34 = .ok (.iload_n 1, 1) := by decide +kernel
theorem d_X_multiply_35 : decode b_X_multiply 35 = .ok (.laload, 1) := by decide +kernel
theorem d_X_multiply_36 : decode b_X_multiply 36 = .ok (.aload_n 0, 1) := by decide +kernel
theorem d_X_multiply_37 : decode b_X_multiply 37 = .ok (.getfield 9, 3) := by decide +kernel
theorem d_X_multiply_40 : decode b_X_multiply 40 = .ok (.iload_n 2, 1) := by decide +kernel
theorem d_X_multiply_41 : decode b_X_multiply 41 = .ok (.laload, 1) := by decide +kernel
theorem d_X_multiply_42 : decode b_X_multiply 42 = .ok (.aload_n 0, 1) := by decide +kernel
theorem d_X_multiply_43 : decode b_X_multiply 43 = .ok (.getfield 13, 3) := by decide +kernel
theorem d_X_multiply_46 : decode b_X_multiply 46 = .ok (.iload_n 2, 1) := by decide +kernel
theorem d_X_multiply_47 : decode b_X_multiply 47 = .ok (.laload, 1) := by decide +kernel
theorem d_X_multiply_48 : decode b_X_multiply 48 = .ok (.iload_n 3, 1) := by decide +kernel
theorem d_X_multiply_49 : decode b_X_multiply 49 = .ok (.iload 4, 2) := by decide +kernel
theorem d_X_multiply_51 : decode b_X_multiply 51 = .ok (.invokevirtual 47, 3) := by decide +kernel
theorem d_X_multiply_54 : decode b_X_multiply 54 = .ok (.return_, 1) := by decide +kernel
theorem d_X_checkApart_0 : decode b_X_checkApart 0 = .ok (.iload_n 0, 1) := by decide +kernel
theorem d_X_checkApart_1 : decode b_X_checkApart 1 = .ok (.iload_n 1, 1) := by decide +kernel
theorem d_X_checkApart_2 : decode b_X_checkApart 2 = .ok (.if_icmp .ne 13, 3) := by decide +kernel
theorem d_X_checkApart_5 : decode b_X_checkApart 5 = .ok (.new 72, 3) := by decide +kernel
theorem d_X_checkApart_8 : decode b_X_checkApart 8 = .ok (.dup, 1) := by decide +kernel
theorem d_X_checkApart_9 : decode b_X_checkApart 9 = .ok (.ldc 105, 2) := by decide +kernel
theorem d_X_checkApart_11 : decode b_X_checkApart 11 = .ok (.invokespecial 76, 3) := by decide +kernel
theorem d_X_checkApart_14 : decode b_X_checkApart 14 = .ok (.athrow, 1) := by decide +kernel
theorem d_X_checkApart_15 : decode b_X_checkApart 15 = .ok (.return_, 1) := by decide +kernel
theorem d_X_storeProduct_0 : decode b_X_storeProduct 0 = .ok (.lload_n 1, 1) := by decide +kernel
theorem d_X_storeProduct_1 : decode b_X_storeProduct 1 = .ok (.lload 7, 2) := by decide +kernel
theorem d_X_storeProduct_3 : decode b_X_storeProduct 3 = .ok (.lmul, 1) := by decide +kernel
theorem d_X_storeProduct_4 : decode b_X_storeProduct 4 = .ok (.lstore 11, 2) := by decide +kernel
theorem d_X_storeProduct_6 : decode b_X_storeProduct 6 = .ok (.lload_n 3, 1) := by decide +kernel
theorem d_X_storeProduct_7 : decode b_X_storeProduct 7 = .ok (.lload 5, 2) := by decide +kernel
theorem d_X_storeProduct_9 : decode b_X_storeProduct 9 = .ok (.lmul, 1) := by decide +kernel
theorem d_X_storeProduct_10 : decode b_X_storeProduct 10 = .ok (.lstore 13, 2) := by decide +kernel
theorem d_X_storeProduct_12 : decode b_X_storeProduct 12 = .ok (.lload 11, 2) := by decide +kernel
theorem d_X_storeProduct_14 : decode b_X_storeProduct 14 = .ok (.lload 13, 2) := by decide +kernel
theorem d_X_storeProduct_16 : decode b_X_storeProduct 16 = .ok (.ladd, 1) := by decide +kernel
theorem d_X_storeProduct_17 : decode b_X_storeProduct 17 = .ok (.lstore 15, 2) := by decide +kernel
theorem d_X_storeProduct_19 : decode b_X_storeProduct 19 = .ok (.lload 15, 2) := by decide +kernel
theorem d_X_storeProduct_21 : decode b_X_storeProduct 21 = .ok (.lload_n 3, 1) := by decide +kernel
theorem d_X_storeProduct_22 : decode b_X_storeProduct 22 = .ok (.lload 7, 2) := by decide +kernel
theorem d_X_storeProduct_24 : decode b_X_storeProduct 24 = .ok (.invokestatic 97, 3) := by decide +kernel
theorem d_X_storeProduct_27 : decode b_X_storeProduct 27 = .ok (.ladd, 1) := by decide +kernel
theorem d_X_storeProduct_28 : decode b_X_storeProduct 28 = .ok (.lstore 17, 2) := by decide +kernel
theorem d_X_storeProduct_30 : decode b_X_storeProduct 30 = .ok (.lload 15, 2) := by decide +kernel
theorem d_X_storeProduct_32 : decode b_X_storeProduct 32 = .ok (.lload 11, 2) := by decide +kernel
theorem d_X_storeProduct_34 : decode b_X_storeProduct 34 = .ok (.invokestatic 35, 3) := by decide +kernel
theorem d_X_storeProduct_37 : decode b_X_storeProduct 37 = .ok (.lload 17, 2) := by decide +kernel
theorem d_X_storeProduct_39 : decode b_X_storeProduct 39 = .ok (.lload 15, 2) := by decide +kernel
theorem d_X_storeProduct_41 : decode b_X_storeProduct 41 = .ok (.invokestatic 35, 3) := by decide +kernel
theorem d_X_storeProduct_44 : decode b_X_storeProduct 44 = .ok (.ladd, 1) := by decide +kernel
theorem d_X_storeProduct_45 : decode b_X_storeProduct 45 = .ok (.lstore 19, 2) := by decide +kernel
theorem d_X_storeProduct_47 : decode b_X_storeProduct 47 = .ok (.lload_n 1, 1) := by decide +kernel
theorem d_X_storeProduct_48 : decode b_X_storeProduct 48 = .ok (.lload 7, 2) := by decide +kernel
theorem d_X_storeProduct_50 : decode b_X_storeProduct 50 = .ok (.invokestatic 97, 3) := by decide +kernel
theorem d_X_storeProduct_53 : decode b_X_storeProduct 53 = .ok (.lstore 21, 2) := by decide +kernel
theorem d_X_storeProduct_55 : decode b_X_storeProduct 55 = .ok (.lload 21, 2) := by decide +kernel
theorem d_X_storeProduct_57 : decode b_X_storeProduct 57 = .ok (.lload_n 3, 1) := by decide +kernel
theorem d_X_storeProduct_58 : decode b_X_storeProduct 58 = .ok (.lload 5, 2) := by decide +kernel
theorem d_X_storeProduct_60 : decode b_X_storeProduct 60 = .ok (.invokestatic 97, 3) := by decide +kernel
theorem d_X_storeProduct_63 : decode b_X_storeProduct 63 = .ok (.ladd, 1) := by decide +kernel
theorem d_X_storeProduct_64 : decode b_X_storeProduct 64 = .ok (.lstore 23, 2) := by decide +kernel
theorem d_X_storeProduct_66 : decode b_X_storeProduct 66 = .ok (.lload 23, 2) := by decide +kernel
theorem d_X_storeProduct_68 : decode b_X_storeProduct 68 = .ok (.lload 19, 2) := by decide +kernel
theorem d_X_storeProduct_70 : decode b_X_storeProduct 70 = .ok (.ladd, 1) := by decide +kernel
theorem d_X_storeProduct_71 : decode b_X_storeProduct 71 = .ok (.lstore 25, 2) := by decide +kernel
theorem d_X_storeProduct_73 : decode b_X_storeProduct 73 = .ok (.lload 25, 2) := by decide +kernel
theorem d_X_storeProduct_75 : decode b_X_storeProduct 75 = .ok (.lload_n 1, 1) := by decide +kernel
theorem d_X_storeProduct_76 : decode b_X_storeProduct 76 = .ok (.lload 5, 2) := by decide +kernel
theorem d_X_storeProduct_78 : decode b_X_storeProduct 78 = .ok (.lmul, 1) := by decide +kernel
theorem d_X_storeProduct_79 : decode b_X_storeProduct 79 = .ok (.ladd, 1) := by decide +kernel
theorem d_X_storeProduct_80 : decode b_X_storeProduct 80 = .ok (.lstore 27, 2) := by decide +kernel
theorem d_X_storeProduct_82 : decode b_X_storeProduct 82 = .ok (.lload 23, 2) := by decide +kernel
theorem d_X_storeProduct_84 : decode b_X_storeProduct 84 = .ok (.lload 21, 2) := by decide +kernel
theorem d_X_storeProduct_86 : decode b_X_storeProduct 86 = .ok (.invokestatic 35, 3) := by decide +kernel
theorem d_X_storeProduct_89 : decode b_X_storeProduct 89 = .ok (.lload 25, 2) := by decide +kernel
theorem d_X_storeProduct_91 : decode b_X_storeProduct 91 = .ok (.lload 19, 2) := by decide +kernel
theorem d_X_storeProduct_93 : decode b_X_storeProduct 93 = .ok (.invokestatic 35, 3) := by decide +kernel
theorem d_X_storeProduct_96 : decode b_X_storeProduct 96 = .ok (.ladd, 1) := by decide +kernel
theorem d_X_storeProduct_97 : decode b_X_storeProduct 97 = .ok (.lload 27, 2) := by decide +kernel
theorem d_X_storeProduct_99 : decode b_X_storeProduct 99 = .ok (.lload 25, 2) := by decide +kernel
theorem d_X_storeProduct_101 : decode b_X_storeProduct 101 = .ok (.invokestatic 35, 3) := by decide +kernel
theorem d_X_storeProduct_104 : decode b_X_storeProduct 104 = .ok (.ladd, 1) := by decide +kernel
theorem d_X_storeProduct_105 : decode b_X_storeProduct 105 = .ok (.lstore 29, 2) := by decide +kernel
theorem d_X_storeProduct_107 : decode b_X_storeProduct 107 = .ok (.aload_n 0, 1) := by decide +kernel
theorem d_X_storeProduct_108 : decode b_X_storeProduct 108 = .ok (.iload 9, 2) := by decide +kernel
theorem d_X_storeProduct_110 : decode b_X_storeProduct 110 = .ok (.lload_n 1, 1) := by decide +kernel
theorem d_X_storeProduct_111 : decode b_X_storeProduct 111 = .ok (.lload 5, 2) := by decide +kernel
theorem d_X_storeProduct_113 : decode b_X_storeProduct 113 = .ok (.invokestatic 97, 3) := by decide +kernel
theorem d_X_storeProduct_116 : decode b_X_storeProduct 116 = .ok (.lload 29, 2) := by decide +kernel
theorem d_X_storeProduct_118 : decode b_X_storeProduct 118 = .ok (.ladd, 1) := by decide +kernel
theorem d_X_storeProduct_119 : decode b_X_storeProduct 119 = .ok (.lload 27, 2) := by decide +kernel
theorem d_X_storeProduct_121 : decode b_X_storeProduct 121 = .ok (.invokevirtual 31, 3) := by decide +kernel
theorem d_X_storeProduct_124 : decode b_X_storeProduct 124 = .ok (.aload_n 0, 1) := by decide +kernel
theorem d_X_storeProduct_125 : decode b_X_storeProduct 125 = .ok (.iload 10, 2) := by decide +kernel
theorem d_X_storeProduct_127 : decode b_X_storeProduct 127 = .ok (.lload 17, 2) := by decide +kernel
theorem d_X_storeProduct_129 : decode b_X_storeProduct 129 = .ok (.lload_n 3, 1) := by decide +kernel
theorem d_X_storeProduct_130 : decode b_X_storeProduct 130 = .ok (.lload 7, 2) := by decide +kernel
theorem d_X_storeProduct_132 : decode b_X_storeProduct 132 = .ok (.lmul, 1) := by decide +kernel
theorem d_X_storeProduct_133 : decode b_X_storeProduct 133 = .ok (.invokevirtual 31, 3) := by decide +kernel
theorem d_X_storeProduct_136 : decode b_X_storeProduct 136 = .ok (.return_, 1) := by decide +kernel
theorem d_X_productOver_0 : decode b_X_productOver 0 = .ok (.lload_n 0, 1) := by decide +kernel
theorem d_X_productOver_1 : decode b_X_productOver 1 = .ok (.bipush 32, 2) := by decide +kernel
theorem d_X_productOver_3 : decode b_X_productOver 3 = .ok (.lushr, 1) := by decide +kernel
theorem d_X_productOver_4 : decode b_X_productOver 4 = .ok (.lstore 4, 2) := by decide +kernel
theorem d_X_productOver_6 : decode b_X_productOver 6 = .ok (.lload_n 0, 1) := by decide +kernel
theorem d_X_productOver_7 : decode b_X_productOver 7 = .ok (.ldc2_w 112, 3) := by decide +kernel
theorem d_X_productOver_10 : decode b_X_productOver 10 = .ok (.land, 1) := by decide +kernel
theorem d_X_productOver_11 : decode b_X_productOver 11 = .ok (.lstore 6, 2) := by decide +kernel
theorem d_X_productOver_13 : decode b_X_productOver 13 = .ok (.lload_n 2, 1) := by decide +kernel
theorem d_X_productOver_14 : decode b_X_productOver 14 = .ok (.bipush 32, 2) := by decide +kernel
theorem d_X_productOver_16 : decode b_X_productOver 16 = .ok (.lushr, 1) := by decide +kernel
theorem d_X_productOver_17 : decode b_X_productOver 17 = .ok (.lstore 8, 2) := by decide +kernel
theorem d_X_productOver_19 : decode b_X_productOver 19 = .ok (.lload_n 2, 1) := by decide +kernel
theorem d_X_productOver_20 : decode b_X_productOver 20 = .ok (.ldc2_w 112, 3) := by decide +kernel
theorem d_X_productOver_23 : decode b_X_productOver 23 = .ok (.land, 1) := by decide +kernel
theorem d_X_productOver_24 : decode b_X_productOver 24 = .ok (.lstore 10, 2) := by decide +kernel
theorem d_X_productOver_26 : decode b_X_productOver 26 = .ok (.lload 4, 2) := by decide +kernel
theorem d_X_productOver_28 : decode b_X_productOver 28 = .ok (.lload 10, 2) := by decide +kernel
theorem d_X_productOver_30 : decode b_X_productOver 30 = .ok (.lmul, 1) := by decide +kernel
theorem d_X_productOver_31 : decode b_X_productOver 31 = .ok (.lload 6, 2) := by decide +kernel
theorem d_X_productOver_33 : decode b_X_productOver 33 = .ok (.lload 10, 2) := by decide +kernel
theorem d_X_productOver_35 : decode b_X_productOver 35 = .ok (.lmul, 1) := by decide +kernel
theorem d_X_productOver_36 : decode b_X_productOver 36 = .ok (.bipush 32, 2) := by decide +kernel
theorem d_X_productOver_38 : decode b_X_productOver 38 = .ok (.lushr, 1) := by decide +kernel
theorem d_X_productOver_39 : decode b_X_productOver 39 = .ok (.ladd, 1) := by decide +kernel
theorem d_X_productOver_40 : decode b_X_productOver 40 = .ok (.lstore 12, 2) := by decide +kernel
theorem d_X_productOver_42 : decode b_X_productOver 42 = .ok (.lload 6, 2) := by decide +kernel
theorem d_X_productOver_44 : decode b_X_productOver 44 = .ok (.lload 8, 2) := by decide +kernel
theorem d_X_productOver_46 : decode b_X_productOver 46 = .ok (.lmul, 1) := by decide +kernel
theorem d_X_productOver_47 : decode b_X_productOver 47 = .ok (.lload 12, 2) := by decide +kernel
theorem d_X_productOver_49 : decode b_X_productOver 49 = .ok (.ldc2_w 112, 3) := by decide +kernel
theorem d_X_productOver_52 : decode b_X_productOver 52 = .ok (.land, 1) := by decide +kernel
theorem d_X_productOver_53 : decode b_X_productOver 53 = .ok (.ladd, 1) := by decide +kernel
theorem d_X_productOver_54 : decode b_X_productOver 54 = .ok (.lstore 14, 2) := by decide +kernel
theorem d_X_productOver_56 : decode b_X_productOver 56 = .ok (.lload 4, 2) := by decide +kernel
theorem d_X_productOver_58 : decode b_X_productOver 58 = .ok (.lload 8, 2) := by decide +kernel
theorem d_X_productOver_60 : decode b_X_productOver 60 = .ok (.lmul, 1) := by decide +kernel
theorem d_X_productOver_61 : decode b_X_productOver 61 = .ok (.lload 12, 2) := by decide +kernel
theorem d_X_productOver_63 : decode b_X_productOver 63 = .ok (.bipush 32, 2) := by decide +kernel
theorem d_X_productOver_65 : decode b_X_productOver 65 = .ok (.lushr, 1) := by decide +kernel
theorem d_X_productOver_66 : decode b_X_productOver 66 = .ok (.ladd, 1) := by decide +kernel
theorem d_X_productOver_67 : decode b_X_productOver 67 = .ok (.lload 14, 2) := by decide +kernel
theorem d_X_productOver_69 : decode b_X_productOver 69 = .ok (.bipush 32, 2) := by decide +kernel
theorem d_X_productOver_71 : decode b_X_productOver 71 = .ok (.lushr, 1) := by decide +kernel
theorem d_X_productOver_72 : decode b_X_productOver 72 = .ok (.ladd, 1) := by decide +kernel
theorem d_X_productOver_73 : decode b_X_productOver 73 = .ok (.lreturn, 1) := by decide +kernel
theorem d_X_divide_0 : decode b_X_divide 0 = .ok (.iload_n 1, 1) := by decide +kernel
theorem d_X_divide_1 : decode b_X_divide 1 = .ok (.invokestatic 27, 3) := by decide +kernel
theorem d_X_divide_4 : decode b_X_divide 4 = .ok (.iload_n 2, 1) := by decide +kernel
theorem d_X_divide_5 : decode b_X_divide 5 = .ok (.invokestatic 27, 3) := by decide +kernel
theorem d_X_divide_8 : decode b_X_divide 8 = .ok (.iload_n 3, 1) := by decide +kernel
theorem d_X_divide_9 : decode b_X_divide 9 = .ok (.invokestatic 27, 3) := by decide +kernel
theorem d_X_divide_12 : decode b_X_divide 12 = .ok (.iload 4, 2) := by decide +kernel
theorem d_X_divide_14 : decode b_X_divide 14 = .ok (.invokestatic 27, 3) := by decide +kernel
theorem d_X_divide_17 : decode b_X_divide 17 = .ok (.iload_n 3, 1) := by decide +kernel
theorem d_X_divide_18 : decode b_X_divide 18 = .ok (.iload 4, 2) := by decide +kernel
theorem d_X_divide_20 : decode b_X_divide 20 = .ok (.invokestatic 43, 3) := by decide +kernel
theorem d_X_divide_23 : decode b_X_divide 23 = .ok (.aload_n 0, 1) := by decide +kernel
theorem d_X_divide_24 : decode b_X_divide 24 = .ok (.getfield 9, 3) := by decide +kernel
theorem d_X_divide_27 : decode b_X_divide 27 = .ok (.iload_n 2, 1) := by decide +kernel
theorem d_X_divide_28 : decode b_X_divide 28 = .ok (.laload, 1) := by decide +kernel
theorem d_X_divide_29 : decode b_X_divide 29 = .ok (.lconst 0, 1) := by decide +kernel
theorem d_X_divide_30 : decode b_X_divide 30 = .ok (.lcmp, 1) := by decide +kernel
theorem d_X_divide_31 : decode b_X_divide 31 = .ok (.ifCond .ne 24, 3) := by decide +kernel
theorem d_X_divide_34 : decode b_X_divide 34 = .ok (.aload_n 0, 1) := by decide +kernel
theorem d_X_divide_35 : decode b_X_divide 35 = .ok (.getfield 13, 3) := by decide +kernel
theorem d_X_divide_38 : decode b_X_divide 38 = .ok (.iload_n 2, 1) := by decide +kernel
theorem d_X_divide_39 : decode b_X_divide 39 = .ok (.laload, 1) := by decide +kernel
theorem d_X_divide_40 : decode b_X_divide 40 = .ok (.lconst 0, 1) := by decide +kernel
theorem d_X_divide_41 : decode b_X_divide 41 = .ok (.lcmp, 1) := by decide +kernel
theorem d_X_divide_42 : decode b_X_divide 42 = .ok (.ifCond .ne 13, 3) := by decide +kernel
theorem d_X_divide_45 : decode b_X_divide 45 = .ok (.new 51, 3) := by decide +kernel
theorem d_X_divide_48 : decode b_X_divide 48 = .ok (.dup, 1) := by decide +kernel
theorem d_X_divide_49 : decode b_X_divide 49 = .ok (.ldc 53, 2) := by decide +kernel
theorem d_X_divide_51 : decode b_X_divide 51 = .ok (.invokespecial 55, 3) := by decide +kernel
theorem d_X_divide_54 : decode b_X_divide 54 = .ok (.athrow, 1) := by decide +kernel
theorem d_X_divide_55 : decode b_X_divide 55 = .ok (.aload_n 0, 1) := by decide +kernel
theorem d_X_divide_56 : decode b_X_divide 56 = .ok (.aload_n 0, 1) := by decide +kernel
theorem d_X_divide_57 : decode b_X_divide 57 = .ok (.getfield 9, 3) := by decide +kernel
theorem d_X_divide_60 : decode b_X_divide 60 = .ok (.iload_n 1, 1) := by decide +kernel
theorem d_X_divide_61 : decode b_X_divide 61 = .ok (.laload, 1) := by decide +kernel
theorem d_X_divide_62 : decode b_X_divide 62 = .ok (.aload_n 0, 1) := by decide +kernel
theorem d_X_divide_63 : decode b_X_divide 63 = .ok (.getfield 13, 3) := by decide +kernel
theorem d_X_divide_66 : decode b_X_divide 66 = .ok (.iload_n 1, 1) := by decide +kernel
theorem d_X_divide_67 : decode b_X_divide 67 = .ok (.laload, 1) := by decide +kernel
theorem d_X_divide_68 : decode b_X_divide 68 = .ok (.aload_n 0, 1) := by decide +kernel
theorem d_X_divide_69 : decode b_X_divide 69 = .ok (.getfield 9, 3) := by decide +kernel
theorem d_X_divide_72 : decode b_X_divide 72 = .ok (.iload_n 2, 1) := by decide +kernel
theorem d_X_divide_73 : decode b_X_divide 73 = .ok (.laload, 1) := by decide +kernel
theorem d_X_divide_74 : decode b_X_divide 74 = .ok (.aload_n 0, 1) := by decide +kernel
theorem d_X_divide_75 : decode b_X_divide 75 = .ok (.getfield 13, 3) := by decide +kernel
theorem d_X_divide_78 : decode b_X_divide 78 = .ok (.iload_n 2, 1) := by decide +kernel
theorem d_X_divide_79 : decode b_X_divide 79 = .ok (.laload, 1) := by decide +kernel
theorem d_X_divide_80 : decode b_X_divide 80 = .ok (.iload_n 3, 1) := by decide +kernel
theorem d_X_divide_81 : decode b_X_divide 81 = .ok (.iload 4, 2) := by decide +kernel
theorem d_X_divide_83 : decode b_X_divide 83 = .ok (.invokevirtual 58, 3) := by decide +kernel
theorem d_X_divide_86 : decode b_X_divide 86 = .ok (.return_, 1) := by decide +kernel
theorem d_X_storeQuotient_0 : decode b_X_storeQuotient 0 = .ok (.lload_n 1, 1) := by decide +kernel
theorem d_X_storeQuotient_1 : decode b_X_storeQuotient 1 = .ok (.lstore 11, 2) := by decide +kernel
theorem d_X_storeQuotient_3 : decode b_X_storeQuotient 3 = .ok (.lload_n 3, 1) := by decide +kernel
theorem d_X_storeQuotient_4 : decode b_X_storeQuotient 4 = .ok (.lstore 13, 2) := by decide +kernel
theorem d_X_storeQuotient_6 : decode b_X_storeQuotient 6 = .ok (.lconst 0, 1) := by decide +kernel
theorem d_X_storeQuotient_7 : decode b_X_storeQuotient 7 = .ok (.lstore 15, 2) := by decide +kernel
theorem d_X_storeQuotient_9 : decode b_X_storeQuotient 9 = .ok (.lconst 0, 1) := by decide +kernel
theorem d_X_storeQuotient_10 : decode b_X_storeQuotient 10 = .ok (.lstore 17, 2) := by decide +kernel
theorem d_X_storeQuotient_12 : decode b_X_storeQuotient 12 = .ok (.iconst 0, 1) := by decide +kernel
theorem d_X_storeQuotient_13 : decode b_X_storeQuotient 13 = .ok (.istore 19, 2) := by decide +kernel
theorem d_X_storeQuotient_15 : decode b_X_storeQuotient 15 = .ok (.iload 19, 2) := by decide +kernel
theorem d_X_storeQuotient_17 : decode b_X_storeQuotient 17 = .ok (.sipush 128, 3) := by decide +kernel
theorem d_X_storeQuotient_20 : decode b_X_storeQuotient 20 = .ok (.if_icmp .ge 112, 3) := by decide +kernel
theorem d_X_storeQuotient_23 : decode b_X_storeQuotient 23 = .ok (.lload 15, 2) := by decide +kernel
theorem d_X_storeQuotient_25 : decode b_X_storeQuotient 25 = .ok (.lconst 0, 1) := by decide +kernel
theorem d_X_storeQuotient_26 : decode b_X_storeQuotient 26 = .ok (.lcmp, 1) := by decide +kernel
theorem d_X_storeQuotient_27 : decode b_X_storeQuotient 27 = .ok (.ifCond .ge 7, 3) := by decide +kernel
theorem d_X_storeQuotient_30 : decode b_X_storeQuotient 30 = .ok (.iconst 1, 1) := by decide +kernel
theorem d_X_storeQuotient_31 : decode b_X_storeQuotient 31 = .ok (.goto 4, 3) := by decide +kernel
theorem d_X_storeQuotient_34 : decode b_X_storeQuotient 34 = .ok (.iconst 0, 1) := by decide +kernel
theorem d_X_storeQuotient_35 : decode b_X_storeQuotient 35 = .ok (.istore 20, 2) := by decide +kernel
theorem d_X_storeQuotient_37 : decode b_X_storeQuotient 37 = .ok (.lload 15, 2) := by decide +kernel
theorem d_X_storeQuotient_39 : decode b_X_storeQuotient 39 = .ok (.iconst 1, 1) := by decide +kernel
theorem d_X_storeQuotient_40 : decode b_X_storeQuotient 40 = .ok (.lshl, 1) := by decide +kernel
theorem d_X_storeQuotient_41 : decode b_X_storeQuotient 41 = .ok (.lload 17, 2) := by decide +kernel
theorem d_X_storeQuotient_43 : decode b_X_storeQuotient 43 = .ok (.bipush 63, 2) := by decide +kernel
theorem d_X_storeQuotient_45 : decode b_X_storeQuotient 45 = .ok (.lushr, 1) := by decide +kernel
theorem d_X_storeQuotient_46 : decode b_X_storeQuotient 46 = .ok (.lor, 1) := by decide +kernel
theorem d_X_storeQuotient_47 : decode b_X_storeQuotient 47 = .ok (.lstore 15, 2) := by decide +kernel
theorem d_X_storeQuotient_49 : decode b_X_storeQuotient 49 = .ok (.lload 17, 2) := by decide +kernel
theorem d_X_storeQuotient_51 : decode b_X_storeQuotient 51 = .ok (.iconst 1, 1) := by decide +kernel
theorem d_X_storeQuotient_52 : decode b_X_storeQuotient 52 = .ok (.lshl, 1) := by decide +kernel
theorem d_X_storeQuotient_53 : decode b_X_storeQuotient 53 = .ok (.lload 11, 2) := by decide +kernel
theorem d_X_storeQuotient_55 : decode b_X_storeQuotient 55 = .ok (.bipush 63, 2) := by decide +kernel
theorem d_X_storeQuotient_57 : decode b_X_storeQuotient 57 = .ok (.lushr, 1) := by decide +kernel
theorem d_X_storeQuotient_58 : decode b_X_storeQuotient 58 = .ok (.lor, 1) := by decide +kernel
theorem d_X_storeQuotient_59 : decode b_X_storeQuotient 59 = .ok (.lstore 17, 2) := by decide +kernel
theorem d_X_storeQuotient_61 : decode b_X_storeQuotient 61 = .ok (.lload 11, 2) := by decide +kernel
theorem d_X_storeQuotient_63 : decode b_X_storeQuotient 63 = .ok (.iconst 1, 1) := by decide +kernel
theorem d_X_storeQuotient_64 : decode b_X_storeQuotient 64 = .ok (.lshl, 1) := by decide +kernel
theorem d_X_storeQuotient_65 : decode b_X_storeQuotient 65 = .ok (.lload 13, 2) := by decide +kernel
theorem d_X_storeQuotient_67 : decode b_X_storeQuotient 67 = .ok (.bipush 63, 2) := by decide +kernel
theorem d_X_storeQuotient_69 : decode b_X_storeQuotient 69 = .ok (.lushr, 1) := by decide +kernel
theorem d_X_storeQuotient_70 : decode b_X_storeQuotient 70 = .ok (.lor, 1) := by decide +kernel
theorem d_X_storeQuotient_71 : decode b_X_storeQuotient 71 = .ok (.lstore 11, 2) := by decide +kernel
theorem d_X_storeQuotient_73 : decode b_X_storeQuotient 73 = .ok (.lload 13, 2) := by decide +kernel
theorem d_X_storeQuotient_75 : decode b_X_storeQuotient 75 = .ok (.iconst 1, 1) := by decide +kernel
theorem d_X_storeQuotient_76 : decode b_X_storeQuotient 76 = .ok (.lshl, 1) := by decide +kernel
theorem d_X_storeQuotient_77 : decode b_X_storeQuotient 77 = .ok (.lstore 13, 2) := by decide +kernel
theorem d_X_storeQuotient_79 : decode b_X_storeQuotient 79 = .ok (.iload 20, 2) := by decide +kernel
theorem d_X_storeQuotient_81 : decode b_X_storeQuotient 81 = .ok (.ifCond .ne 17, 3) := by decide +kernel
theorem d_X_storeQuotient_84 : decode b_X_storeQuotient 84 = .ok (.lload 15, 2) := by decide +kernel
theorem d_X_storeQuotient_86 : decode b_X_storeQuotient 86 = .ok (.lload 17, 2) := by decide +kernel
theorem d_X_storeQuotient_88 : decode b_X_storeQuotient 88 = .ok (.lload 5, 2) := by decide +kernel
theorem d_X_storeQuotient_90 : decode b_X_storeQuotient 90 = .ok (.lload 7, 2) := by decide +kernel
theorem d_X_storeQuotient_92 : decode b_X_storeQuotient 92 = .ok (.invokestatic 39, 3) := by decide +kernel
theorem d_X_storeQuotient_95 : decode b_X_storeQuotient 95 = .ok (.ifCond .ne 31, 3) := by decide +kernel
theorem d_X_storeQuotient_98 : decode b_X_storeQuotient 98 = .ok (.lload 15, 2) := by decide +kernel
theorem d_X_storeQuotient_100 : decode b_X_storeQuotient 100 = .ok (.lload 5, 2) := by decide +kernel
theorem d_X_storeQuotient_102 : decode b_X_storeQuotient 102 = .ok (.lsub, 1) := by decide +kernel
theorem d_X_storeQuotient_103 : decode b_X_storeQuotient 103 = .ok (.lload 17, 2) := by decide +kernel
theorem d_X_storeQuotient_105 : decode b_X_storeQuotient 105 = .ok (.lload 7, 2) := by decide +kernel
theorem d_X_storeQuotient_107 : decode b_X_storeQuotient 107 = .ok (.invokestatic 35, 3) := by decide +kernel
theorem d_X_storeQuotient_110 : decode b_X_storeQuotient 110 = .ok (.lsub, 1) := by decide +kernel
theorem d_X_storeQuotient_111 : decode b_X_storeQuotient 111 = .ok (.lstore 15, 2) := by decide +kernel
theorem d_X_storeQuotient_113 : decode b_X_storeQuotient 113 = .ok (.lload 17, 2) := by decide +kernel
theorem d_X_storeQuotient_115 : decode b_X_storeQuotient 115 = .ok (.lload 7, 2) := by decide +kernel
theorem d_X_storeQuotient_117 : decode b_X_storeQuotient 117 = .ok (.lsub, 1) := by decide +kernel
theorem d_X_storeQuotient_118 : decode b_X_storeQuotient 118 = .ok (.lstore 17, 2) := by decide +kernel
theorem d_X_storeQuotient_120 : decode b_X_storeQuotient 120 = .ok (.lload 13, 2) := by decide +kernel
theorem d_X_storeQuotient_122 : decode b_X_storeQuotient 122 = .ok (.lconst 1, 1) := by decide +kernel
theorem d_X_storeQuotient_123 : decode b_X_storeQuotient 123 = .ok (.lor, 1) := by decide +kernel
theorem d_X_storeQuotient_124 : decode b_X_storeQuotient 124 = .ok (.lstore 13, 2) := by decide +kernel
theorem d_X_storeQuotient_126 : decode b_X_storeQuotient 126 = .ok (.iinc 19 1, 3) := by decide +kernel
theorem d_X_storeQuotient_129 : decode b_X_storeQuotient 129 = .ok (.goto (-114), 3) := by decide +kernel
theorem d_X_storeQuotient_132 : decode b_X_storeQuotient 132 = .ok (.aload_n 0, 1) := by decide +kernel
theorem d_X_storeQuotient_133 : decode b_X_storeQuotient 133 = .ok (.iload 9, 2) := by decide +kernel
theorem d_X_storeQuotient_135 : decode b_X_storeQuotient 135 = .ok (.lload 11, 2) := by decide +kernel
theorem d_X_storeQuotient_137 : decode b_X_storeQuotient 137 = .ok (.lload 13, 2) := by decide +kernel
theorem d_X_storeQuotient_139 : decode b_X_storeQuotient 139 = .ok (.invokevirtual 31, 3) := by decide +kernel
theorem d_X_storeQuotient_142 : decode b_X_storeQuotient 142 = .ok (.aload_n 0, 1) := by decide +kernel
theorem d_X_storeQuotient_143 : decode b_X_storeQuotient 143 = .ok (.iload 10, 2) := by decide +kernel
theorem d_X_storeQuotient_145 : decode b_X_storeQuotient 145 = .ok (.lload 15, 2) := by decide +kernel
theorem d_X_storeQuotient_147 : decode b_X_storeQuotient 147 = .ok (.lload 17, 2) := by decide +kernel
theorem d_X_storeQuotient_149 : decode b_X_storeQuotient 149 = .ok (.invokevirtual 31, 3) := by decide +kernel
theorem d_X_storeQuotient_152 : decode b_X_storeQuotient 152 = .ok (.return_, 1) := by decide +kernel
theorem d_X_root_0 : decode b_X_root 0 = .ok (.iload_n 1, 1) := by decide +kernel
theorem d_X_root_1 : decode b_X_root 1 = .ok (.invokestatic 27, 3) := by decide +kernel
theorem d_X_root_4 : decode b_X_root 4 = .ok (.iload_n 2, 1) := by decide +kernel
theorem d_X_root_5 : decode b_X_root 5 = .ok (.invokestatic 27, 3) := by decide +kernel
theorem d_X_root_8 : decode b_X_root 8 = .ok (.iload_n 3, 1) := by decide +kernel
theorem d_X_root_9 : decode b_X_root 9 = .ok (.invokestatic 27, 3) := by decide +kernel
theorem d_X_root_12 : decode b_X_root 12 = .ok (.iload_n 2, 1) := by decide +kernel
theorem d_X_root_13 : decode b_X_root 13 = .ok (.iload_n 3, 1) := by decide +kernel
theorem d_X_root_14 : decode b_X_root 14 = .ok (.invokestatic 43, 3) := by decide +kernel
theorem d_X_root_17 : decode b_X_root 17 = .ok (.aload_n 0, 1) := by decide +kernel
theorem d_X_root_18 : decode b_X_root 18 = .ok (.aload_n 0, 1) := by decide +kernel
theorem d_X_root_19 : decode b_X_root 19 = .ok (.getfield 9, 3) := by decide +kernel
theorem d_X_root_22 : decode b_X_root 22 = .ok (.iload_n 1, 1) := by decide +kernel
theorem d_X_root_23 : decode b_X_root 23 = .ok (.laload, 1) := by decide +kernel
theorem d_X_root_24 : decode b_X_root 24 = .ok (.aload_n 0, 1) := by decide +kernel
theorem d_X_root_25 : decode b_X_root 25 = .ok (.getfield 13, 3) := by decide +kernel
theorem d_X_root_28 : decode b_X_root 28 = .ok (.iload_n 1, 1) := by decide +kernel
theorem d_X_root_29 : decode b_X_root 29 = .ok (.laload, 1) := by decide +kernel
theorem d_X_root_30 : decode b_X_root 30 = .ok (.iload_n 2, 1) := by decide +kernel
theorem d_X_root_31 : decode b_X_root 31 = .ok (.iload_n 3, 1) := by decide +kernel
theorem d_X_root_32 : decode b_X_root 32 = .ok (.invokevirtual 61, 3) := by decide +kernel
theorem d_X_root_35 : decode b_X_root 35 = .ok (.return_, 1) := by decide +kernel
theorem d_X_storeRoot_0 : decode b_X_storeRoot 0 = .ok (.lload_n 1, 1) := by decide +kernel
theorem d_X_storeRoot_1 : decode b_X_storeRoot 1 = .ok (.lstore 7, 2) := by decide +kernel
theorem d_X_storeRoot_3 : decode b_X_storeRoot 3 = .ok (.lload_n 3, 1) := by decide +kernel
theorem d_X_storeRoot_4 : decode b_X_storeRoot 4 = .ok (.lstore 9, 2) := by decide +kernel
theorem d_X_storeRoot_6 : decode b_X_storeRoot 6 = .ok (.lconst 0, 1) := by decide +kernel
theorem d_X_storeRoot_7 : decode b_X_storeRoot 7 = .ok (.lstore 11, 2) := by decide +kernel
theorem d_X_storeRoot_9 : decode b_X_storeRoot 9 = .ok (.lconst 0, 1) := by decide +kernel
theorem d_X_storeRoot_10 : decode b_X_storeRoot 10 = .ok (.lstore 13, 2) := by decide +kernel
theorem d_X_storeRoot_12 : decode b_X_storeRoot 12 = .ok (.lconst 0, 1) := by decide +kernel
theorem d_X_storeRoot_13 : decode b_X_storeRoot 13 = .ok (.lstore 15, 2) := by decide +kernel
theorem d_X_storeRoot_15 : decode b_X_storeRoot 15 = .ok (.iconst 0, 1) := by decide +kernel
theorem d_X_storeRoot_16 : decode b_X_storeRoot 16 = .ok (.istore 17, 2) := by decide +kernel
theorem d_X_storeRoot_18 : decode b_X_storeRoot 18 = .ok (.iload 17, 2) := by decide +kernel
theorem d_X_storeRoot_20 : decode b_X_storeRoot 20 = .ok (.bipush 64, 2) := by decide +kernel
theorem d_X_storeRoot_22 : decode b_X_storeRoot 22 = .ok (.if_icmp .ge 114, 3) := by decide +kernel
theorem d_X_storeRoot_25 : decode b_X_storeRoot 25 = .ok (.lload 13, 2) := by decide +kernel
theorem d_X_storeRoot_27 : decode b_X_storeRoot 27 = .ok (.iconst 2, 1) := by decide +kernel
theorem d_X_storeRoot_28 : decode b_X_storeRoot 28 = .ok (.lshl, 1) := by decide +kernel
theorem d_X_storeRoot_29 : decode b_X_storeRoot 29 = .ok (.lload 15, 2) := by decide +kernel
theorem d_X_storeRoot_31 : decode b_X_storeRoot 31 = .ok (.bipush 62, 2) := by decide +kernel
theorem d_X_storeRoot_33 : decode b_X_storeRoot 33 = .ok (.lushr, 1) := by decide +kernel
theorem d_X_storeRoot_34 : decode b_X_storeRoot 34 = .ok (.lor, 1) := by decide +kernel
theorem d_X_storeRoot_35 : decode b_X_storeRoot 35 = .ok (.lstore 13, 2) := by decide +kernel
theorem d_X_storeRoot_37 : decode b_X_storeRoot 37 = .ok (.lload 15, 2) := by decide +kernel
theorem d_X_storeRoot_39 : decode b_X_storeRoot 39 = .ok (.iconst 2, 1) := by decide +kernel
theorem d_X_storeRoot_40 : decode b_X_storeRoot 40 = .ok (.lshl, 1) := by decide +kernel
theorem d_X_storeRoot_41 : decode b_X_storeRoot 41 = .ok (.lload 7, 2) := by decide +kernel
theorem d_X_storeRoot_43 : decode b_X_storeRoot 43 = .ok (.bipush 62, 2) := by decide +kernel
theorem d_X_storeRoot_45 : decode b_X_storeRoot 45 = .ok (.lushr, 1) := by decide +kernel
theorem d_X_storeRoot_46 : decode b_X_storeRoot 46 = .ok (.lor, 1) := by decide +kernel
theorem d_X_storeRoot_47 : decode b_X_storeRoot 47 = .ok (.lstore 15, 2) := by decide +kernel
theorem d_X_storeRoot_49 : decode b_X_storeRoot 49 = .ok (.lload 7, 2) := by decide +kernel
theorem d_X_storeRoot_51 : decode b_X_storeRoot 51 = .ok (.iconst 2, 1) := by decide +kernel
theorem d_X_storeRoot_52 : decode b_X_storeRoot 52 = .ok (.lshl, 1) := by decide +kernel
theorem d_X_storeRoot_53 : decode b_X_storeRoot 53 = .ok (.lload 9, 2) := by decide +kernel
theorem d_X_storeRoot_55 : decode b_X_storeRoot 55 = .ok (.bipush 62, 2) := by decide +kernel
theorem d_X_storeRoot_57 : decode b_X_storeRoot 57 = .ok (.lushr, 1) := by decide +kernel
theorem d_X_storeRoot_58 : decode b_X_storeRoot 58 = .ok (.lor, 1) := by decide +kernel
theorem d_X_storeRoot_59 : decode b_X_storeRoot 59 = .ok (.lstore 7, 2) := by decide +kernel
theorem d_X_storeRoot_61 : decode b_X_storeRoot 61 = .ok (.lload 9, 2) := by decide +kernel
theorem d_X_storeRoot_63 : decode b_X_storeRoot 63 = .ok (.iconst 2, 1) := by decide +kernel
theorem d_X_storeRoot_64 : decode b_X_storeRoot 64 = .ok (.lshl, 1) := by decide +kernel
theorem d_X_storeRoot_65 : decode b_X_storeRoot 65 = .ok (.lstore 9, 2) := by decide +kernel
theorem d_X_storeRoot_67 : decode b_X_storeRoot 67 = .ok (.lload 11, 2) := by decide +kernel
theorem d_X_storeRoot_69 : decode b_X_storeRoot 69 = .ok (.bipush 62, 2) := by decide +kernel
theorem d_X_storeRoot_71 : decode b_X_storeRoot 71 = .ok (.lushr, 1) := by decide +kernel
theorem d_X_storeRoot_72 : decode b_X_storeRoot 72 = .ok (.lstore 18, 2) := by decide +kernel
theorem d_X_storeRoot_74 : decode b_X_storeRoot 74 = .ok (.lload 11, 2) := by decide +kernel
theorem d_X_storeRoot_76 : decode b_X_storeRoot 76 = .ok (.iconst 2, 1) := by decide +kernel
theorem d_X_storeRoot_77 : decode b_X_storeRoot 77 = .ok (.lshl, 1) := by decide +kernel
theorem d_X_storeRoot_78 : decode b_X_storeRoot 78 = .ok (.lconst 1, 1) := by decide +kernel
theorem d_X_storeRoot_79 : decode b_X_storeRoot 79 = .ok (.lor, 1) := by decide +kernel
theorem d_X_storeRoot_80 : decode b_X_storeRoot 80 = .ok (.lstore 20, 2) := by decide +kernel
theorem d_X_storeRoot_82 : decode b_X_storeRoot 82 = .ok (.lload 11, 2) := by decide +kernel
theorem d_X_storeRoot_84 : decode b_X_storeRoot 84 = .ok (.iconst 1, 1) := by decide +kernel
theorem d_X_storeRoot_85 : decode b_X_storeRoot 85 = .ok (.lshl, 1) := by decide +kernel
theorem d_X_storeRoot_86 : decode b_X_storeRoot 86 = .ok (.lstore 11, 2) := by decide +kernel
theorem d_X_storeRoot_88 : decode b_X_storeRoot 88 = .ok (.lload 13, 2) := by decide +kernel
theorem d_X_storeRoot_90 : decode b_X_storeRoot 90 = .ok (.lload 15, 2) := by decide +kernel
theorem d_X_storeRoot_92 : decode b_X_storeRoot 92 = .ok (.lload 18, 2) := by decide +kernel
theorem d_X_storeRoot_94 : decode b_X_storeRoot 94 = .ok (.lload 20, 2) := by decide +kernel
theorem d_X_storeRoot_96 : decode b_X_storeRoot 96 = .ok (.invokestatic 39, 3) := by decide +kernel
theorem d_X_storeRoot_99 : decode b_X_storeRoot 99 = .ok (.ifCond .ne 31, 3) := by decide +kernel
theorem d_X_storeRoot_102 : decode b_X_storeRoot 102 = .ok (.lload 13, 2) := by decide +kernel
theorem d_X_storeRoot_104 : decode b_X_storeRoot 104 = .ok (.lload 18, 2) := by decide +kernel
theorem d_X_storeRoot_106 : decode b_X_storeRoot 106 = .ok (.lsub, 1) := by decide +kernel
theorem d_X_storeRoot_107 : decode b_X_storeRoot 107 = .ok (.lload 15, 2) := by decide +kernel
theorem d_X_storeRoot_109 : decode b_X_storeRoot 109 = .ok (.lload 20, 2) := by decide +kernel
theorem d_X_storeRoot_111 : decode b_X_storeRoot 111 = .ok (.invokestatic 35, 3) := by decide +kernel
theorem d_X_storeRoot_114 : decode b_X_storeRoot 114 = .ok (.lsub, 1) := by decide +kernel
theorem d_X_storeRoot_115 : decode b_X_storeRoot 115 = .ok (.lstore 13, 2) := by decide +kernel
theorem d_X_storeRoot_117 : decode b_X_storeRoot 117 = .ok (.lload 15, 2) := by decide +kernel
theorem d_X_storeRoot_119 : decode b_X_storeRoot 119 = .ok (.lload 20, 2) := by decide +kernel
theorem d_X_storeRoot_121 : decode b_X_storeRoot 121 = .ok (.lsub, 1) := by decide +kernel
theorem d_X_storeRoot_122 : decode b_X_storeRoot 122 = .ok (.lstore 15, 2) := by decide +kernel
theorem d_X_storeRoot_124 : decode b_X_storeRoot 124 = .ok (.lload 11, 2) := by decide +kernel
theorem d_X_storeRoot_126 : decode b_X_storeRoot 126 = .ok (.lconst 1, 1) := by decide +kernel
theorem d_X_storeRoot_127 : decode b_X_storeRoot 127 = .ok (.lor, 1) := by decide +kernel
theorem d_X_storeRoot_128 : decode b_X_storeRoot 128 = .ok (.lstore 11, 2) := by decide +kernel
theorem d_X_storeRoot_130 : decode b_X_storeRoot 130 = .ok (.iinc 17 1, 3) := by decide +kernel
theorem d_X_storeRoot_133 : decode b_X_storeRoot 133 = .ok (.goto (-115), 3) := by decide +kernel
theorem d_X_storeRoot_136 : decode b_X_storeRoot 136 = .ok (.aload_n 0, 1) := by decide +kernel
theorem d_X_storeRoot_137 : decode b_X_storeRoot 137 = .ok (.iload 5, 2) := by decide +kernel
theorem d_X_storeRoot_139 : decode b_X_storeRoot 139 = .ok (.lconst 0, 1) := by decide +kernel
theorem d_X_storeRoot_140 : decode b_X_storeRoot 140 = .ok (.lload 11, 2) := by decide +kernel
theorem d_X_storeRoot_142 : decode b_X_storeRoot 142 = .ok (.invokevirtual 31, 3) := by decide +kernel
theorem d_X_storeRoot_145 : decode b_X_storeRoot 145 = .ok (.aload_n 0, 1) := by decide +kernel
theorem d_X_storeRoot_146 : decode b_X_storeRoot 146 = .ok (.iload 6, 2) := by decide +kernel
theorem d_X_storeRoot_148 : decode b_X_storeRoot 148 = .ok (.lload 13, 2) := by decide +kernel
theorem d_X_storeRoot_150 : decode b_X_storeRoot 150 = .ok (.lload 15, 2) := by decide +kernel
theorem d_X_storeRoot_152 : decode b_X_storeRoot 152 = .ok (.invokevirtual 31, 3) := by decide +kernel
theorem d_X_storeRoot_155 : decode b_X_storeRoot 155 = .ok (.return_, 1) := by decide +kernel
theorem d_X_shift_0 : decode b_X_shift 0 = .ok (.iload_n 1, 1) := by decide +kernel
theorem d_X_shift_1 : decode b_X_shift 1 = .ok (.invokestatic 27, 3) := by decide +kernel
theorem d_X_shift_4 : decode b_X_shift 4 = .ok (.iload_n 3, 1) := by decide +kernel
theorem d_X_shift_5 : decode b_X_shift 5 = .ok (.invokestatic 27, 3) := by decide +kernel
theorem d_X_shift_8 : decode b_X_shift 8 = .ok (.iload_n 2, 1) := by decide +kernel
theorem d_X_shift_9 : decode b_X_shift 9 = .ok (.ifCond .lt 22, 3) := by decide +kernel
theorem d_X_shift_12 : decode b_X_shift 12 = .ok (.aload_n 0, 1) := by decide +kernel
theorem d_X_shift_13 : decode b_X_shift 13 = .ok (.aload_n 0, 1) := by decide +kernel
theorem d_X_shift_14 : decode b_X_shift 14 = .ok (.getfield 9, 3) := by decide +kernel
theorem d_X_shift_17 : decode b_X_shift 17 = .ok (.iload_n 1, 1) := by decide +kernel
theorem d_X_shift_18 : decode b_X_shift 18 = .ok (.laload, 1) := by decide +kernel
theorem d_X_shift_19 : decode b_X_shift 19 = .ok (.aload_n 0, 1) := by decide +kernel
theorem d_X_shift_20 : decode b_X_shift 20 = .ok (.getfield 13, 3) := by decide +kernel
theorem d_X_shift_23 : decode b_X_shift 23 = .ok (.iload_n 1, 1) := by decide +kernel
theorem d_X_shift_24 : decode b_X_shift 24 = .ok (.laload, 1) := by decide +kernel
theorem d_X_shift_25 : decode b_X_shift 25 = .ok (.iload_n 2, 1) := by decide +kernel
theorem d_X_shift_26 : decode b_X_shift 26 = .ok (.iload_n 3, 1) := by decide +kernel
theorem d_X_shift_27 : decode b_X_shift 27 = .ok (.invokevirtual 65, 3) := by decide +kernel
theorem d_X_shift_30 : decode b_X_shift 30 = .ok (.ireturn, 1) := by decide +kernel
theorem d_X_shift_31 : decode b_X_shift 31 = .ok (.iload_n 2, 1) := by decide +kernel
theorem d_X_shift_32 : decode b_X_shift 32 = .ok (.bipush (-128), 2) := by decide +kernel
theorem d_X_shift_34 : decode b_X_shift 34 = .ok (.if_icmp .gt 9, 3) := by decide +kernel
theorem d_X_shift_37 : decode b_X_shift 37 = .ok (.sipush 128, 3) := by decide +kernel
theorem d_X_shift_40 : decode b_X_shift 40 = .ok (.goto 5, 3) := by decide +kernel
theorem d_X_shift_43 : decode b_X_shift 43 = .ok (.iload_n 2, 1) := by decide +kernel
theorem d_X_shift_44 : decode b_X_shift 44 = .ok (.ineg, 1) := by decide +kernel
theorem d_X_shift_45 : decode b_X_shift 45 = .ok (.istore 4, 2) := by decide +kernel
theorem d_X_shift_47 : decode b_X_shift 47 = .ok (.aload_n 0, 1) := by decide +kernel
theorem d_X_shift_48 : decode b_X_shift 48 = .ok (.aload_n 0, 1) := by decide +kernel
theorem d_X_shift_49 : decode b_X_shift 49 = .ok (.getfield 9, 3) := by decide +kernel
theorem d_X_shift_52 : decode b_X_shift 52 = .ok (.iload_n 1, 1) := by decide +kernel
theorem d_X_shift_53 : decode b_X_shift 53 = .ok (.laload, 1) := by decide +kernel
theorem d_X_shift_54 : decode b_X_shift 54 = .ok (.aload_n 0, 1) := by decide +kernel
theorem d_X_shift_55 : decode b_X_shift 55 = .ok (.getfield 13, 3) := by decide +kernel
theorem d_X_shift_58 : decode b_X_shift 58 = .ok (.iload_n 1, 1) := by decide +kernel
theorem d_X_shift_59 : decode b_X_shift 59 = .ok (.laload, 1) := by decide +kernel
theorem d_X_shift_60 : decode b_X_shift 60 = .ok (.iload 4, 2) := by decide +kernel
theorem d_X_shift_62 : decode b_X_shift 62 = .ok (.iload_n 3, 1) := by decide +kernel
theorem d_X_shift_63 : decode b_X_shift 63 = .ok (.invokevirtual 69, 3) := by decide +kernel
theorem d_X_shift_66 : decode b_X_shift 66 = .ok (.ireturn, 1) := by decide +kernel
theorem d_X_storeShiftedUp_0 : decode b_X_storeShiftedUp 0 = .ok (.iload 5, 2) := by decide +kernel
theorem d_X_storeShiftedUp_2 : decode b_X_storeShiftedUp 2 = .ok (.sipush 128, 3) := by decide +kernel
theorem d_X_storeShiftedUp_5 : decode b_X_storeShiftedUp 5 = .ok (.if_icmp .lt 14, 3) := by decide +kernel
theorem d_X_storeShiftedUp_8 : decode b_X_storeShiftedUp 8 = .ok (.aload_n 0, 1) := by decide +kernel
theorem d_X_storeShiftedUp_9 : decode b_X_storeShiftedUp 9 = .ok (.iload 6, 2) := by decide +kernel
theorem d_X_storeShiftedUp_11 : decode b_X_storeShiftedUp 11 = .ok (.lconst 0, 1) := by decide +kernel
theorem d_X_storeShiftedUp_12 : decode b_X_storeShiftedUp 12 = .ok (.lconst 0, 1) := by decide +kernel
theorem d_X_storeShiftedUp_13 : decode b_X_storeShiftedUp 13 = .ok (.invokevirtual 31, 3) := by decide +kernel
theorem d_X_storeShiftedUp_16 : decode b_X_storeShiftedUp 16 = .ok (.goto 65, 3) := by decide +kernel
theorem d_X_storeShiftedUp_19 : decode b_X_storeShiftedUp 19 = .ok (.iload 5, 2) := by decide +kernel
theorem d_X_storeShiftedUp_21 : decode b_X_storeShiftedUp 21 = .ok (.bipush 64, 2) := by decide +kernel
theorem d_X_storeShiftedUp_23 : decode b_X_storeShiftedUp 23 = .ok (.if_icmp .lt 20, 3) := by decide +kernel
theorem d_X_storeShiftedUp_26 : decode b_X_storeShiftedUp 26 = .ok (.aload_n 0, 1) := by decide +kernel
theorem d_X_storeShiftedUp_27 : decode b_X_storeShiftedUp 27 = .ok (.iload 6, 2) := by decide +kernel
theorem d_X_storeShiftedUp_29 : decode b_X_storeShiftedUp 29 = .ok (.lload_n 3, 1) := by decide +kernel
theorem d_X_storeShiftedUp_30 : decode b_X_storeShiftedUp 30 = .ok (.iload 5, 2) := by decide +kernel
theorem d_X_storeShiftedUp_32 : decode b_X_storeShiftedUp 32 = .ok (.bipush 64, 2) := by decide +kernel
theorem d_X_storeShiftedUp_34 : decode b_X_storeShiftedUp 34 = .ok (.isub, 1) := by decide +kernel
theorem d_X_storeShiftedUp_35 : decode b_X_storeShiftedUp 35 = .ok (.lshl, 1) := by decide +kernel
theorem d_X_storeShiftedUp_36 : decode b_X_storeShiftedUp 36 = .ok (.lconst 0, 1) := by decide +kernel
theorem d_X_storeShiftedUp_37 : decode b_X_storeShiftedUp 37 = .ok (.invokevirtual 31, 3) := by decide +kernel
theorem d_X_storeShiftedUp_40 : decode b_X_storeShiftedUp 40 = .ok (.goto 41, 3) := by decide +kernel
theorem d_X_storeShiftedUp_43 : decode b_X_storeShiftedUp 43 = .ok (.iload 5, 2) := by decide +kernel
theorem d_X_storeShiftedUp_45 : decode b_X_storeShiftedUp 45 = .ok (.ifCond .le 28, 3) := by decide +kernel
theorem d_X_storeShiftedUp_48 : decode b_X_storeShiftedUp 48 = .ok (.aload_n 0, 1) := by decide +kernel
theorem d_X_storeShiftedUp_49 : decode b_X_storeShiftedUp 49 = .ok (.iload 6, 2) := by decide +kernel
theorem d_X_storeShiftedUp_51 : decode b_X_storeShiftedUp 51 = .ok (.lload_n 1, 1) := by decide +kernel
theorem d_X_storeShiftedUp_52 : decode b_X_storeShiftedUp 52 = .ok (.iload 5, 2) := by decide +kernel
theorem d_X_storeShiftedUp_54 : decode b_X_storeShiftedUp 54 = .ok (.lshl, 1) := by decide +kernel
theorem d_X_storeShiftedUp_55 : decode b_X_storeShiftedUp 55 = .ok (.lload_n 3, 1) := by decide +kernel
theorem d_X_storeShiftedUp_56 : decode b_X_storeShiftedUp 56 = .ok (.bipush 64, 2) := by decide +kernel
theorem d_X_storeShiftedUp_58 : decode b_X_storeShiftedUp 58 = .ok (.iload 5, 2) := by decide +kernel
theorem d_X_storeShiftedUp_60 : decode b_X_storeShiftedUp 60 = .ok (.isub, 1) := by decide +kernel
theorem d_X_storeShiftedUp_61 : decode b_X_storeShiftedUp 61 = .ok (.lushr, 1) := by decide +kernel
theorem d_X_storeShiftedUp_62 : decode b_X_storeShiftedUp 62 = .ok (.lor, 1) := by decide +kernel
theorem d_X_storeShiftedUp_63 : decode b_X_storeShiftedUp 63 = .ok (.lload_n 3, 1) := by decide +kernel
theorem d_X_storeShiftedUp_64 : decode b_X_storeShiftedUp 64 = .ok (.iload 5, 2) := by decide +kernel
theorem d_X_storeShiftedUp_66 : decode b_X_storeShiftedUp 66 = .ok (.lshl, 1) := by decide +kernel
theorem d_X_storeShiftedUp_67 : decode b_X_storeShiftedUp 67 = .ok (.invokevirtual 31, 3) := by decide +kernel
theorem d_X_storeShiftedUp_70 : decode b_X_storeShiftedUp 70 = .ok (.goto 11, 3) := by decide +kernel
theorem d_X_storeShiftedUp_73 : decode b_X_storeShiftedUp 73 = .ok (.aload_n 0, 1) := by decide +kernel
theorem d_X_storeShiftedUp_74 : decode b_X_storeShiftedUp 74 = .ok (.iload 6, 2) := by decide +kernel
theorem d_X_storeShiftedUp_76 : decode b_X_storeShiftedUp 76 = .ok (.lload_n 1, 1) := by decide +kernel
theorem d_X_storeShiftedUp_77 : decode b_X_storeShiftedUp 77 = .ok (.lload_n 3, 1) := by decide +kernel
theorem d_X_storeShiftedUp_78 : decode b_X_storeShiftedUp 78 = .ok (.invokevirtual 31, 3) := by decide +kernel
theorem d_X_storeShiftedUp_81 : decode b_X_storeShiftedUp 81 = .ok (.lload_n 1, 1) := by decide +kernel
theorem d_X_storeShiftedUp_82 : decode b_X_storeShiftedUp 82 = .ok (.lload_n 3, 1) := by decide +kernel
theorem d_X_storeShiftedUp_83 : decode b_X_storeShiftedUp 83 = .ok (.lor, 1) := by decide +kernel
theorem d_X_storeShiftedUp_84 : decode b_X_storeShiftedUp 84 = .ok (.lconst 0, 1) := by decide +kernel
theorem d_X_storeShiftedUp_85 : decode b_X_storeShiftedUp 85 = .ok (.lcmp, 1) := by decide +kernel
theorem d_X_storeShiftedUp_86 : decode b_X_storeShiftedUp 86 = .ok (.ifCond .eq 17, 3) := by decide +kernel
theorem d_X_storeShiftedUp_89 : decode b_X_storeShiftedUp 89 = .ok (.iload 5, 2) := by decide +kernel
theorem d_X_storeShiftedUp_91 : decode b_X_storeShiftedUp 91 = .ok (.lload_n 1, 1) := by decide +kernel
theorem d_X_storeShiftedUp_92 : decode b_X_storeShiftedUp 92 = .ok (.lload_n 3, 1) := by decide +kernel
theorem d_X_storeShiftedUp_93 : decode b_X_storeShiftedUp 93 = .ok (.invokestatic 77, 3) := by decide +kernel
theorem d_X_storeShiftedUp_96 : decode b_X_storeShiftedUp 96 = .ok (.if_icmp .le 7, 3) := by decide +kernel
theorem d_X_storeShiftedUp_99 : decode b_X_storeShiftedUp 99 = .ok (.iconst 1, 1) := by decide +kernel
theorem d_X_storeShiftedUp_100 : decode b_X_storeShiftedUp 100 = .ok (.goto 4, 3) := by decide +kernel
theorem d_X_storeShiftedUp_103 : decode b_X_storeShiftedUp 103 = .ok (.iconst 0, 1) := by decide +kernel
theorem d_X_storeShiftedUp_104 : decode b_X_storeShiftedUp 104 = .ok (.ireturn, 1) := by decide +kernel
theorem d_X_zerosAbove_0 : decode b_X_zerosAbove 0 = .ok (.lload_n 0, 1) := by decide +kernel
theorem d_X_zerosAbove_1 : decode b_X_zerosAbove 1 = .ok (.lconst 0, 1) := by decide +kernel
theorem d_X_zerosAbove_2 : decode b_X_zerosAbove 2 = .ok (.lcmp, 1) := by decide +kernel
theorem d_X_zerosAbove_3 : decode b_X_zerosAbove 3 = .ok (.ifCond .eq 10, 3) := by decide +kernel
theorem d_X_zerosAbove_6 : decode b_X_zerosAbove 6 = .ok (.lload_n 0, 1) := by decide +kernel
theorem d_X_zerosAbove_7 : decode b_X_zerosAbove 7 = .ok (.invokestatic 117, 3) := by decide +kernel
theorem d_X_zerosAbove_10 : decode b_X_zerosAbove 10 = .ok (.goto 10, 3) := by decide +kernel
theorem d_X_zerosAbove_13 : decode b_X_zerosAbove 13 = .ok (.bipush 64, 2) := by decide +kernel
theorem d_X_zerosAbove_15 : decode b_X_zerosAbove 15 = .ok (.lload_n 2, 1) := by decide +kernel
theorem d_X_zerosAbove_16 : decode b_X_zerosAbove 16 = .ok (.invokestatic 117, 3) := by decide +kernel
theorem d_X_zerosAbove_19 : decode b_X_zerosAbove 19 = .ok (.iadd, 1) := by decide +kernel
theorem d_X_zerosAbove_20 : decode b_X_zerosAbove 20 = .ok (.ireturn, 1) := by decide +kernel
theorem d_X_storeShiftedDown_0 : decode b_X_storeShiftedDown 0 = .ok (.iload 5, 2) := by decide +kernel
theorem d_X_storeShiftedDown_2 : decode b_X_storeShiftedDown 2 = .ok (.sipush 128, 3) := by decide +kernel
theorem d_X_storeShiftedDown_5 : decode b_X_storeShiftedDown 5 = .ok (.if_icmp .lt 14, 3) := by decide +kernel
theorem d_X_storeShiftedDown_8 : decode b_X_storeShiftedDown 8 = .ok (.aload_n 0, 1) := by decide +kernel
theorem d_X_storeShiftedDown_9 : decode b_X_storeShiftedDown 9 = .ok (.iload 6, 2) := by decide +kernel
theorem d_X_storeShiftedDown_11 : decode b_X_storeShiftedDown 11 = .ok (.lconst 0, 1) := by decide +kernel
theorem d_X_storeShiftedDown_12 : decode b_X_storeShiftedDown 12 = .ok (.lconst 0, 1) := by decide +kernel
theorem d_X_storeShiftedDown_13 : decode b_X_storeShiftedDown 13 = .ok (.invokevirtual 31, 3) := by decide +kernel
theorem d_X_storeShiftedDown_16 : decode b_X_storeShiftedDown 16 = .ok (.goto 65, 3) := by decide +kernel
theorem d_X_storeShiftedDown_19 : decode b_X_storeShiftedDown 19 = .ok (.iload 5, 2) := by decide +kernel
theorem d_X_storeShiftedDown_21 : decode b_X_storeShiftedDown 21 = .ok (.bipush 64, 2) := by decide +kernel
theorem d_X_storeShiftedDown_23 : decode b_X_storeShiftedDown 23 = .ok (.if_icmp .lt 20, 3) := by decide +kernel
theorem d_X_storeShiftedDown_26 : decode b_X_storeShiftedDown 26 = .ok (.aload_n 0, 1) := by decide +kernel
theorem d_X_storeShiftedDown_27 : decode b_X_storeShiftedDown 27 = .ok (.iload 6, 2) := by decide +kernel
theorem d_X_storeShiftedDown_29 : decode b_X_storeShiftedDown 29 = .ok (.lconst 0, 1) := by decide +kernel
theorem d_X_storeShiftedDown_30 : decode b_X_storeShiftedDown 30 = .ok (.lload_n 1, 1) := by decide +kernel
theorem d_X_storeShiftedDown_31 : decode b_X_storeShiftedDown 31 = .ok (.iload 5, 2) := by decide +kernel
theorem d_X_storeShiftedDown_33 : decode b_X_storeShiftedDown 33 = .ok (.bipush 64, 2) := by decide +kernel
theorem d_X_storeShiftedDown_35 : decode b_X_storeShiftedDown 35 = .ok (.isub, 1) := by decide +kernel
theorem d_X_storeShiftedDown_36 : decode b_X_storeShiftedDown 36 = .ok (.lushr, 1) := by decide +kernel
theorem d_X_storeShiftedDown_37 : decode b_X_storeShiftedDown 37 = .ok (.invokevirtual 31, 3) := by decide +kernel
theorem d_X_storeShiftedDown_40 : decode b_X_storeShiftedDown 40 = .ok (.goto 41, 3) := by decide +kernel
theorem d_X_storeShiftedDown_43 : decode b_X_storeShiftedDown 43 = .ok (.iload 5, 2) := by decide +kernel
theorem d_X_storeShiftedDown_45 : decode b_X_storeShiftedDown 45 = .ok (.ifCond .le 28, 3) := by decide +kernel
theorem d_X_storeShiftedDown_48 : decode b_X_storeShiftedDown 48 = .ok (.aload_n 0, 1) := by decide +kernel
theorem d_X_storeShiftedDown_49 : decode b_X_storeShiftedDown 49 = .ok (.iload 6, 2) := by decide +kernel
theorem d_X_storeShiftedDown_51 : decode b_X_storeShiftedDown 51 = .ok (.lload_n 1, 1) := by decide +kernel
theorem d_X_storeShiftedDown_52 : decode b_X_storeShiftedDown 52 = .ok (.iload 5, 2) := by decide +kernel
theorem d_X_storeShiftedDown_54 : decode b_X_storeShiftedDown 54 = .ok (.lushr, 1) := by decide +kernel
theorem d_X_storeShiftedDown_55 : decode b_X_storeShiftedDown 55 = .ok (.lload_n 3, 1) := by decide +kernel
theorem d_X_storeShiftedDown_56 : decode b_X_storeShiftedDown 56 = .ok (.iload 5, 2) := by decide +kernel
theorem d_X_storeShiftedDown_58 : decode b_X_storeShiftedDown 58 = .ok (.lushr, 1) := by decide +kernel
theorem d_X_storeShiftedDown_59 : decode b_X_storeShiftedDown 59 = .ok (.lload_n 1, 1) := by decide +kernel
theorem d_X_storeShiftedDown_60 : decode b_X_storeShiftedDown 60 = .ok (.bipush 64, 2) := by decide +kernel
theorem d_X_storeShiftedDown_62 : decode b_X_storeShiftedDown 62 = .ok (.iload 5, 2) := by decide +kernel
theorem d_X_storeShiftedDown_64 : decode b_X_storeShiftedDown 64 = .ok (.isub, 1) := by decide +kernel
theorem d_X_storeShiftedDown_65 : decode b_X_storeShiftedDown 65 = .ok (.lshl, 1) := by decide +kernel
theorem d_X_storeShiftedDown_66 : decode b_X_storeShiftedDown 66 = .ok (.lor, 1) := by decide +kernel
theorem d_X_storeShiftedDown_67 : decode b_X_storeShiftedDown 67 = .ok (.invokevirtual 31, 3) := by decide +kernel
theorem d_X_storeShiftedDown_70 : decode b_X_storeShiftedDown 70 = .ok (.goto 11, 3) := by decide +kernel
theorem d_X_storeShiftedDown_73 : decode b_X_storeShiftedDown 73 = .ok (.aload_n 0, 1) := by decide +kernel
theorem d_X_storeShiftedDown_74 : decode b_X_storeShiftedDown 74 = .ok (.iload 6, 2) := by decide +kernel
theorem d_X_storeShiftedDown_76 : decode b_X_storeShiftedDown 76 = .ok (.lload_n 1, 1) := by decide +kernel
theorem d_X_storeShiftedDown_77 : decode b_X_storeShiftedDown 77 = .ok (.lload_n 3, 1) := by decide +kernel
theorem d_X_storeShiftedDown_78 : decode b_X_storeShiftedDown 78 = .ok (.invokevirtual 31, 3) := by decide +kernel
theorem d_X_storeShiftedDown_81 : decode b_X_storeShiftedDown 81 = .ok (.lload_n 1, 1) := by decide +kernel
theorem d_X_storeShiftedDown_82 : decode b_X_storeShiftedDown 82 = .ok (.lload_n 3, 1) := by decide +kernel
theorem d_X_storeShiftedDown_83 : decode b_X_storeShiftedDown 83 = .ok (.lor, 1) := by decide +kernel
theorem d_X_storeShiftedDown_84 : decode b_X_storeShiftedDown 84 = .ok (.lconst 0, 1) := by decide +kernel
theorem d_X_storeShiftedDown_85 : decode b_X_storeShiftedDown 85 = .ok (.lcmp, 1) := by decide +kernel
theorem d_X_storeShiftedDown_86 : decode b_X_storeShiftedDown 86 = .ok (.ifCond .eq 17, 3) := by decide +kernel
theorem d_X_storeShiftedDown_89 : decode b_X_storeShiftedDown 89 = .ok (.iload 5, 2) := by decide +kernel
theorem d_X_storeShiftedDown_91 : decode b_X_storeShiftedDown 91 = .ok (.lload_n 1, 1) := by decide +kernel
theorem d_X_storeShiftedDown_92 : decode b_X_storeShiftedDown 92 = .ok (.lload_n 3, 1) := by decide +kernel
theorem d_X_storeShiftedDown_93 : decode b_X_storeShiftedDown 93 = .ok (.invokestatic 114, 3) := by decide +kernel
theorem d_X_storeShiftedDown_96 : decode b_X_storeShiftedDown 96 = .ok (.if_icmp .le 7, 3) := by decide +kernel
theorem d_X_storeShiftedDown_99 : decode b_X_storeShiftedDown 99 = .ok (.iconst 1, 1) := by decide +kernel
theorem d_X_storeShiftedDown_100 : decode b_X_storeShiftedDown 100 = .ok (.goto 4, 3) := by decide +kernel
theorem d_X_storeShiftedDown_103 : decode b_X_storeShiftedDown 103 = .ok (.iconst 0, 1) := by decide +kernel
theorem d_X_storeShiftedDown_104 : decode b_X_storeShiftedDown 104 = .ok (.ireturn, 1) := by decide +kernel
theorem d_X_zerosBelow_0 : decode b_X_zerosBelow 0 = .ok (.lload_n 2, 1) := by decide +kernel
theorem d_X_zerosBelow_1 : decode b_X_zerosBelow 1 = .ok (.lconst 0, 1) := by decide +kernel
theorem d_X_zerosBelow_2 : decode b_X_zerosBelow 2 = .ok (.lcmp, 1) := by decide +kernel
theorem d_X_zerosBelow_3 : decode b_X_zerosBelow 3 = .ok (.ifCond .eq 10, 3) := by decide +kernel
theorem d_X_zerosBelow_6 : decode b_X_zerosBelow 6 = .ok (.lload_n 2, 1) := by decide +kernel
theorem d_X_zerosBelow_7 : decode b_X_zerosBelow 7 = .ok (.invokestatic 121, 3) := by decide +kernel
theorem d_X_zerosBelow_10 : decode b_X_zerosBelow 10 = .ok (.goto 10, 3) := by decide +kernel
theorem d_X_zerosBelow_13 : decode b_X_zerosBelow 13 = .ok (.bipush 64, 2) := by decide +kernel
theorem d_X_zerosBelow_15 : decode b_X_zerosBelow 15 = .ok (.lload_n 0, 1) := by decide +kernel
theorem d_X_zerosBelow_16 : decode b_X_zerosBelow 16 = .ok (.invokestatic 121, 3) := by decide +kernel
theorem d_X_zerosBelow_19 : decode b_X_zerosBelow 19 = .ok (.iadd, 1) := by decide +kernel
theorem d_X_zerosBelow_20 : decode b_X_zerosBelow 20 = .ok (.ireturn, 1) := by decide +kernel
theorem d_X_jam_0 : decode b_X_jam 0 = .ok (.iload_n 1, 1) := by decide +kernel
theorem d_X_jam_1 : decode b_X_jam 1 = .ok (.invokestatic 27, 3) := by decide +kernel
theorem d_X_jam_4 : decode b_X_jam 4 = .ok (.iload_n 3, 1) := by decide +kernel
theorem d_X_jam_5 : decode b_X_jam 5 = .ok (.invokestatic 27, 3) := by decide +kernel
theorem d_X_jam_8 : decode b_X_jam 8 = .ok (.iload_n 2, 1) := by decide +kernel
theorem d_X_jam_9 : decode b_X_jam 9 = .ok (.ifCond .ge 13, 3) := by decide +kernel
theorem d_X_jam_12 : decode b_X_jam 12 = .ok (.new 72, 3) := by decide +kernel
theorem d_X_jam_15 : decode b_X_jam 15 = .ok (.dup, 1) := by decide +kernel
theorem d_X_jam_16 : decode b_X_jam 16 = .ok (.ldc 74, 2) := by decide +kernel
theorem d_X_jam_18 : decode b_X_jam 18 = .ok (.invokespecial 76, 3) := by decide +kernel
theorem d_X_jam_21 : decode b_X_jam 21 = .ok (.athrow, 1) := by decide +kernel
theorem d_X_jam_22 : decode b_X_jam 22 = .ok (.aload_n 0, 1) := by decide +kernel
theorem d_X_jam_23 : decode b_X_jam 23 = .ok (.aload_n 0, 1) := by decide +kernel
theorem d_X_jam_24 : decode b_X_jam 24 = .ok (.getfield 9, 3) := by decide +kernel
theorem d_X_jam_27 : decode b_X_jam 27 = .ok (.iload_n 1, 1) := by decide +kernel
theorem d_X_jam_28 : decode b_X_jam 28 = .ok (.laload, 1) := by decide +kernel
theorem d_X_jam_29 : decode b_X_jam 29 = .ok (.aload_n 0, 1) := by decide +kernel
theorem d_X_jam_30 : decode b_X_jam 30 = .ok (.getfield 13, 3) := by decide +kernel
theorem d_X_jam_33 : decode b_X_jam 33 = .ok (.iload_n 1, 1) := by decide +kernel
theorem d_X_jam_34 : decode b_X_jam 34 = .ok (.laload, 1) := by decide +kernel
theorem d_X_jam_35 : decode b_X_jam 35 = .ok (.iload_n 2, 1) := by decide +kernel
theorem d_X_jam_36 : decode b_X_jam 36 = .ok (.iload_n 3, 1) := by decide +kernel
theorem d_X_jam_37 : decode b_X_jam 37 = .ok (.invokevirtual 69, 3) := by decide +kernel
theorem d_X_jam_40 : decode b_X_jam 40 = .ok (.ifCond .eq 13, 3) := by decide +kernel
theorem d_X_jam_43 : decode b_X_jam 43 = .ok (.aload_n 0, 1) := by decide +kernel
theorem d_X_jam_44 : decode b_X_jam 44 = .ok (.getfield 13, 3) := by decide +kernel
theorem d_X_jam_47 : decode b_X_jam 47 = .ok (.iload_n 3, 1) := by decide +kernel
theorem d_X_jam_48 : decode b_X_jam 48 = .ok (.dup2, 1) := by decide +kernel
theorem d_X_jam_49 : decode b_X_jam 49 = .ok (.laload, 1) := by decide +kernel
theorem d_X_jam_50 : decode b_X_jam 50 = .ok (.lconst 1, 1) := by decide +kernel
theorem d_X_jam_51 : decode b_X_jam 51 = .ok (.lor, 1) := by decide +kernel
theorem d_X_jam_52 : decode b_X_jam 52 = .ok (.lastore, 1) := by decide +kernel
theorem d_X_jam_53 : decode b_X_jam 53 = .ok (.return_, 1) := by decide +kernel
theorem d_X_zeros_0 : decode b_X_zeros 0 = .ok (.iload_n 1, 1) := by decide +kernel
theorem d_X_zeros_1 : decode b_X_zeros 1 = .ok (.invokestatic 27, 3) := by decide +kernel
theorem d_X_zeros_4 : decode b_X_zeros 4 = .ok (.aload_n 0, 1) := by decide +kernel
theorem d_X_zeros_5 : decode b_X_zeros 5 = .ok (.getfield 9, 3) := by decide +kernel
theorem d_X_zeros_8 : decode b_X_zeros 8 = .ok (.iload_n 1, 1) := by decide +kernel
theorem d_X_zeros_9 : decode b_X_zeros 9 = .ok (.laload, 1) := by decide +kernel
theorem d_X_zeros_10 : decode b_X_zeros 10 = .ok (.aload_n 0, 1) := by decide +kernel
theorem d_X_zeros_11 : decode b_X_zeros 11 = .ok (.getfield 13, 3) := by decide +kernel
theorem d_X_zeros_14 : decode b_X_zeros 14 = .ok (.iload_n 1, 1) := by decide +kernel
theorem d_X_zeros_15 : decode b_X_zeros 15 = .ok (.laload, 1) := by decide +kernel
theorem d_X_zeros_16 : decode b_X_zeros 16 = .ok (.invokestatic 77, 3) := by decide +kernel
theorem d_X_zeros_19 : decode b_X_zeros 19 = .ok (.ireturn, 1) := by decide +kernel
theorem d_X_compare_0 : decode b_X_compare 0 = .ok (.iload_n 1, 1) := by decide +kernel
theorem d_X_compare_1 : decode b_X_compare 1 = .ok (.invokestatic 27, 3) := by decide +kernel
theorem d_X_compare_4 : decode b_X_compare 4 = .ok (.iload_n 2, 1) := by decide +kernel
theorem d_X_compare_5 : decode b_X_compare 5 = .ok (.invokestatic 27, 3) := by decide +kernel
theorem d_X_compare_8 : decode b_X_compare 8 = .ok (.aload_n 0, 1) := by decide +kernel
theorem d_X_compare_9 : decode b_X_compare 9 = .ok (.getfield 9, 3) := by decide +kernel
theorem d_X_compare_12 : decode b_X_compare 12 = .ok (.iload_n 1, 1) := by decide +kernel
theorem d_X_compare_13 : decode b_X_compare 13 = .ok (.laload, 1) := by decide +kernel
theorem d_X_compare_14 : decode b_X_compare 14 = .ok (.aload_n 0, 1) := by decide +kernel
theorem d_X_compare_15 : decode b_X_compare 15 = .ok (.getfield 13, 3) := by decide +kernel
theorem d_X_compare_18 : decode b_X_compare 18 = .ok (.iload_n 1, 1) := by decide +kernel
theorem d_X_compare_19 : decode b_X_compare 19 = .ok (.laload, 1) := by decide +kernel
theorem d_X_compare_20 : decode b_X_compare 20 = .ok (.aload_n 0, 1) := by decide +kernel
theorem d_X_compare_21 : decode b_X_compare 21 = .ok (.getfield 9, 3) := by decide +kernel
theorem d_X_compare_24 : decode b_X_compare 24 = .ok (.iload_n 2, 1) := by decide +kernel
theorem d_X_compare_25 : decode b_X_compare 25 = .ok (.laload, 1) := by decide +kernel
theorem d_X_compare_26 : decode b_X_compare 26 = .ok (.aload_n 0, 1) := by decide +kernel
theorem d_X_compare_27 : decode b_X_compare 27 = .ok (.getfield 13, 3) := by decide +kernel
theorem d_X_compare_30 : decode b_X_compare 30 = .ok (.iload_n 2, 1) := by decide +kernel
theorem d_X_compare_31 : decode b_X_compare 31 = .ok (.laload, 1) := by decide +kernel
theorem d_X_compare_32 : decode b_X_compare 32 = .ok (.invokestatic 39, 3) := by decide +kernel
theorem d_X_compare_35 : decode b_X_compare 35 = .ok (.ifCond .eq 5, 3) := by decide +kernel
theorem d_X_compare_38 : decode b_X_compare 38 = .ok (.iconst (-1), 1) := by decide +kernel
theorem d_X_compare_39 : decode b_X_compare 39 = .ok (.ireturn, 1) := by decide +kernel
theorem d_X_compare_40 : decode b_X_compare 40 = .ok (.aload_n 0, 1) := by decide +kernel
theorem d_X_compare_41 : decode b_X_compare 41 = .ok (.getfield 9, 3) := by decide +kernel
theorem d_X_compare_44 : decode b_X_compare 44 = .ok (.iload_n 2, 1) := by decide +kernel
theorem d_X_compare_45 : decode b_X_compare 45 = .ok (.laload, 1) := by decide +kernel
theorem d_X_compare_46 : decode b_X_compare 46 = .ok (.aload_n 0, 1) := by decide +kernel
theorem d_X_compare_47 : decode b_X_compare 47 = .ok (.getfield 13, 3) := by decide +kernel
theorem d_X_compare_50 : decode b_X_compare 50 = .ok (.iload_n 2, 1) := by decide +kernel
theorem d_X_compare_51 : decode b_X_compare 51 = .ok (.laload, 1) := by decide +kernel
theorem d_X_compare_52 : decode b_X_compare 52 = .ok (.aload_n 0, 1) := by decide +kernel
theorem d_X_compare_53 : decode b_X_compare 53 = .ok (.getfield 9, 3) := by decide +kernel
theorem d_X_compare_56 : decode b_X_compare 56 = .ok (.iload_n 1, 1) := by decide +kernel
theorem d_X_compare_57 : decode b_X_compare 57 = .ok (.laload, 1) := by decide +kernel
theorem d_X_compare_58 : decode b_X_compare 58 = .ok (.aload_n 0, 1) := by decide +kernel
theorem d_X_compare_59 : decode b_X_compare 59 = .ok (.getfield 13, 3) := by decide +kernel
theorem d_X_compare_62 : decode b_X_compare 62 = .ok (.iload_n 1, 1) := by decide +kernel
theorem d_X_compare_63 : decode b_X_compare 63 = .ok (.laload, 1) := by decide +kernel
theorem d_X_compare_64 : decode b_X_compare 64 = .ok (.invokestatic 39, 3) := by decide +kernel
theorem d_X_compare_67 : decode b_X_compare 67 = .ok (.ifCond .eq 7, 3) := by decide +kernel
theorem d_X_compare_70 : decode b_X_compare 70 = .ok (.iconst 1, 1) := by decide +kernel
theorem d_X_compare_71 : decode b_X_compare 71 = .ok (.goto 4, 3) := by decide +kernel
theorem d_X_compare_74 : decode b_X_compare 74 = .ok (.iconst 0, 1) := by decide +kernel
theorem d_X_compare_75 : decode b_X_compare 75 = .ok (.ireturn, 1) := by decide +kernel
theorem d_X_digits_0 : decode b_X_digits 0 = .ok (.iload_n 1, 1) := by decide +kernel
theorem d_X_digits_1 : decode b_X_digits 1 = .ok (.invokestatic 27, 3) := by decide +kernel
theorem d_X_digits_4 : decode b_X_digits 4 = .ok (.aload_n 0, 1) := by decide +kernel
theorem d_X_digits_5 : decode b_X_digits 5 = .ok (.aload_n 0, 1) := by decide +kernel
theorem d_X_digits_6 : decode b_X_digits 6 = .ok (.getfield 9, 3) := by decide +kernel
theorem d_X_digits_9 : decode b_X_digits 9 = .ok (.iload_n 1, 1) := by decide +kernel
theorem d_X_digits_10 : decode b_X_digits 10 = .ok (.laload, 1) := by decide +kernel
theorem d_X_digits_11 : decode b_X_digits 11 = .ok (.aload_n 0, 1) := by decide +kernel
theorem d_X_digits_12 : decode b_X_digits 12 = .ok (.getfield 13, 3) := by decide +kernel
theorem d_X_digits_15 : decode b_X_digits 15 = .ok (.iload_n 1, 1) := by decide +kernel
theorem d_X_digits_16 : decode b_X_digits 16 = .ok (.laload, 1) := by decide +kernel
theorem d_X_digits_17 : decode b_X_digits 17 = .ok (.invokevirtual 81, 3) := by decide +kernel
theorem d_X_digits_20 : decode b_X_digits 20 = .ok (.bipush 39, 2) := by decide +kernel
theorem d_X_digits_22 : decode b_X_digits 22 = .ok (.istore_n 2, 1) := by decide +kernel
theorem d_X_digits_23 : decode b_X_digits 23 = .ok (.iinc 2 (-1), 3) := by decide +kernel
theorem d_X_digits_26 : decode b_X_digits 26 = .ok (.aload_n 0, 1) := by decide +kernel
theorem d_X_digits_27 : decode b_X_digits 27 = .ok (.getfield 19, 3) := by decide +kernel
theorem d_X_digits_30 : decode b_X_digits 30 = .ok (.iload_n 2, 1) := by decide +kernel
theorem d_X_digits_31 : decode b_X_digits 31 = .ok (.aload_n 0, 1) := by decide +kernel
theorem d_X_digits_32 : decode b_X_digits 32 = .ok (.invokevirtual 85, 3) := by decide +kernel
theorem d_X_digits_35 : decode b_X_digits 35 = .ok (.iastore, 1) := by decide +kernel
theorem d_X_digits_36 : decode b_X_digits 36 = .ok (.iload_n 2, 1) := by decide +kernel
theorem d_X_digits_37 : decode b_X_digits 37 = .ok (.ifCond .le 10, 3) := by decide +kernel
theorem d_X_digits_40 : decode b_X_digits 40 = .ok (.aload_n 0, 1) := by decide +kernel
theorem d_X_digits_41 : decode b_X_digits 41 = .ok (.invokevirtual 89, 3) := by decide +kernel
theorem d_X_digits_44 : decode b_X_digits 44 = .ok (.ifCond .eq (-21), 3) := by decide +kernel
theorem d_X_digits_47 : decode b_X_digits 47 = .ok (.aload_n 0, 1) := by decide +kernel
theorem d_X_digits_48 : decode b_X_digits 48 = .ok (.iload_n 2, 1) := by decide +kernel
theorem d_X_digits_49 : decode b_X_digits 49 = .ok (.putfield 23, 3) := by decide +kernel
theorem d_X_digits_52 : decode b_X_digits 52 = .ok (.bipush 39, 2) := by decide +kernel
theorem d_X_digits_54 : decode b_X_digits 54 = .ok (.iload_n 2, 1) := by decide +kernel
theorem d_X_digits_55 : decode b_X_digits 55 = .ok (.isub, 1) := by decide +kernel
theorem d_X_digits_56 : decode b_X_digits 56 = .ok (.ireturn, 1) := by decide +kernel
theorem d_X_splitIntoParts_0 : decode b_X_splitIntoParts 0 = .ok (.aload_n 0, 1) := by decide +kernel
theorem d_X_splitIntoParts_1 : decode b_X_splitIntoParts 1 = .ok (.getfield 16, 3) := by decide +kernel
theorem d_X_splitIntoParts_4 : decode b_X_splitIntoParts 4 = .ok (.iconst 0, 1) := by decide +kernel
theorem d_X_splitIntoParts_5 : decode b_X_splitIntoParts 5 = .ok (.lload_n 1, 1) := by decide +kernel
theorem d_X_splitIntoParts_6 : decode b_X_splitIntoParts 6 = .ok (.bipush 32, 2) := by decide +kernel
theorem d_X_splitIntoParts_8 : decode b_X_splitIntoParts 8 = .ok (.lushr, 1) := by decide +kernel
theorem d_X_splitIntoParts_9 : decode b_X_splitIntoParts 9 = .ok (.lastore, 1) := by decide +kernel
theorem d_X_splitIntoParts_10 : decode b_X_splitIntoParts 10 = .ok (.aload_n 0, 1) := by decide +kernel
theorem d_X_splitIntoParts_11 : decode b_X_splitIntoParts 11 = .ok (.getfield 16, 3) := by decide +kernel
theorem d_X_splitIntoParts_14 : decode b_X_splitIntoParts 14 = .ok (.iconst 1, 1) := by decide +kernel
theorem d_X_splitIntoParts_15 : decode b_X_splitIntoParts 15 = .ok (.lload_n 1, 1) := by decide +kernel
theorem d_X_splitIntoParts_16 : decode b_X_splitIntoParts 16 = .ok (.ldc2_w 112, 3) := by decide +kernel
theorem d_X_splitIntoParts_19 : decode b_X_splitIntoParts 19 = .ok (.land, 1) := by decide +kernel
theorem d_X_splitIntoParts_20 : decode b_X_splitIntoParts 20 = .ok (.lastore, 1) := by decide +kernel
theorem d_X_splitIntoParts_21 : decode b_X_splitIntoParts 21 = .ok (.aload_n 0, 1) := by decide +kernel
theorem d_X_splitIntoParts_22 : decode b_X_splitIntoParts 22 = .ok (.getfield 16, 3) := by decide +kernel
theorem d_X_splitIntoParts_25 : decode b_X_splitIntoParts 25 = .ok (.iconst 2, 1) := by decide +kernel
theorem d_X_splitIntoParts_26 : decode b_X_splitIntoParts 26 = .ok (.lload_n 3, 1) := by decide +kernel
theorem d_X_splitIntoParts_27 : decode b_X_splitIntoParts 27 = .ok (.bipush 32, 2) := by decide +kernel
theorem d_X_splitIntoParts_29 : decode b_X_splitIntoParts 29 = .ok (.lushr, 1) := by decide +kernel
theorem d_X_splitIntoParts_30 : decode b_X_splitIntoParts 30 = .ok (.lastore, 1) := by decide +kernel
theorem d_X_splitIntoParts_31 : decode b_X_splitIntoParts 31 = .ok (.aload_n 0, 1) := by decide +kernel
theorem d_X_splitIntoParts_32 : decode b_X_splitIntoParts 32 = .ok (.getfield 16, 3) := by decide +kernel
theorem d_X_splitIntoParts_35 : decode b_X_splitIntoParts 35 = .ok (.iconst 3, 1) := by decide +kernel
theorem d_X_splitIntoParts_36 : decode b_X_splitIntoParts 36 = .ok (.lload_n 3, 1) := by decide +kernel
theorem d_X_splitIntoParts_37 : decode b_X_splitIntoParts 37 = .ok (.ldc2_w 112, 3) := by decide +kernel
theorem d_X_splitIntoParts_40 : decode b_X_splitIntoParts 40 = .ok (.land, 1) := by decide +kernel
theorem d_X_splitIntoParts_41 : decode b_X_splitIntoParts 41 = .ok (.lastore, 1) := by decide +kernel
theorem d_X_splitIntoParts_42 : decode b_X_splitIntoParts 42 = .ok (.return_, 1) := by decide +kernel
theorem d_X_takeLowestDigit_0 : decode b_X_takeLowestDigit 0 = .ok (.lconst 0, 1) := by decide +kernel
theorem d_X_takeLowestDigit_1 : decode b_X_takeLowestDigit 1 = .ok (.lstore_n 1, 1) := by decide +kernel
theorem d_X_takeLowestDigit_2 : decode b_X_takeLowestDigit 2 = .ok (.iconst 0, 1) := by decide +kernel
theorem d_X_takeLowestDigit_3 : decode b_X_takeLowestDigit 3 = .ok (.istore_n 3, 1) := by decide +kernel
theorem d_X_takeLowestDigit_4 : decode b_X_takeLowestDigit 4 = .ok (.iload_n 3, 1) := by decide +kernel
theorem d_X_takeLowestDigit_5 : decode b_X_takeLowestDigit 5 = .ok (.iconst 4, 1) := by decide +kernel
theorem d_X_takeLowestDigit_6 : decode b_X_takeLowestDigit 6 = .ok (.if_icmp .ge 41, 3) := by decide +kernel
theorem d_X_takeLowestDigit_9 : decode b_X_takeLowestDigit 9 = .ok (.lload_n 1, 1) := by decide +kernel
theorem d_X_takeLowestDigit_10 : decode b_X_takeLowestDigit 10 = .ok (.bipush 32, 2) := by decide +kernel
theorem d_X_takeLowestDigit_12 : decode b_X_takeLowestDigit 12 = .ok (.lshl, 1) := by decide +kernel
theorem d_X_takeLowestDigit_13 : decode b_X_takeLowestDigit 13 = .ok (.aload_n 0, 1) := by decide +kernel
theorem d_X_takeLowestDigit_14 : decode b_X_takeLowestDigit 14 = .ok (.getfield 16, 3) := by decide +kernel
theorem d_X_takeLowestDigit_17 : decode b_X_takeLowestDigit 17 = .ok (.iload_n 3, 1) := by decide +kernel
theorem d_X_takeLowestDigit_18 : decode b_X_takeLowestDigit 18 = .ok (.laload, 1) := by decide +kernel
theorem d_X_takeLowestDigit_19 : decode b_X_takeLowestDigit 19 = .ok (.lor, 1) := by decide +kernel
theorem d_X_takeLowestDigit_20 : decode b_X_takeLowestDigit 20 = .ok (.lstore 4, 2) := by decide +kernel
theorem d_X_takeLowestDigit_22 : decode b_X_takeLowestDigit 22 = .ok (.aload_n 0, 1) := by decide +kernel
theorem d_X_takeLowestDigit_23 : decode b_X_takeLowestDigit 23 = .ok (.getfield 16, 3) := by decide +kernel
theorem d_X_takeLowestDigit_26 : decode b_X_takeLowestDigit 26 = .ok (.iload_n 3, 1) := by decide +kernel
theorem d_X_takeLowestDigit_27 : decode b_X_takeLowestDigit 27 = .ok (.lload 4, 2) := by decide +kernel
theorem d_X_takeLowestDigit_29 : decode b_X_takeLowestDigit 29 = .ok (.ldc2_w 93, 3) := by decide +kernel
theorem d_X_takeLowestDigit_32 : decode b_X_takeLowestDigit 32 = .ok (.ldiv, 1) := by decide +kernel
theorem d_X_takeLowestDigit_33 : decode b_X_takeLowestDigit 33 = .ok (.lastore, 1) := by decide +kernel
theorem d_X_takeLowestDigit_34 : decode b_X_takeLowestDigit 34 = .ok (.lload 4, 2) := by decide +kernel
theorem d_X_takeLowestDigit_36 : decode b_X_takeLowestDigit 36 = .ok (.ldc2_w 93, 3) := by decide +kernel
theorem d_X_takeLowestDigit_39 : decode b_X_takeLowestDigit 39 = .ok (.lrem, 1) := by decide +kernel
theorem d_X_takeLowestDigit_40 : decode b_X_takeLowestDigit 40 = .ok (.lstore_n 1, 1) := by decide +kernel
theorem d_X_takeLowestDigit_41 : decode b_X_takeLowestDigit 41 = .ok (.iinc 3 1, 3) := by decide +kernel
theorem d_X_takeLowestDigit_44 : decode b_X_takeLowestDigit 44 = .ok (.goto (-40), 3) := by decide +kernel
theorem d_X_takeLowestDigit_47 : decode b_X_takeLowestDigit 47 = .ok (.lload_n 1, 1) := by decide +kernel
theorem d_X_takeLowestDigit_48 : decode b_X_takeLowestDigit 48 = .ok (.l2i, 1) := by decide +kernel
theorem d_X_takeLowestDigit_49 : decode b_X_takeLowestDigit 49 = .ok (.ireturn, 1) := by decide +kernel
theorem d_X_partsAreZero_0 : decode b_X_partsAreZero 0 = .ok (.aload_n 0, 1) := by decide +kernel
theorem d_X_partsAreZero_1 : decode b_X_partsAreZero 1 = .ok (.getfield 16, 3) := by decide +kernel
theorem d_X_partsAreZero_4 : decode b_X_partsAreZero 4 = .ok (.iconst 0, 1) := by decide +kernel
theorem d_X_partsAreZero_5 : decode b_X_partsAreZero 5 = .ok (.laload, 1) := by decide +kernel
theorem d_X_partsAreZero_6 : decode b_X_partsAreZero 6 = .ok (.aload_n 0, 1) := by decide +kernel
theorem d_X_partsAreZero_7 : decode b_X_partsAreZero 7 = .ok (.getfield 16, 3) := by decide +kernel
theorem d_X_partsAreZero_10 : decode b_X_partsAreZero 10 = .ok (.iconst 1, 1) := by decide +kernel
theorem d_X_partsAreZero_11 : decode b_X_partsAreZero 11 = .ok (.laload, 1) := by decide +kernel
theorem d_X_partsAreZero_12 : decode b_X_partsAreZero 12 = .ok (.lor, 1) := by decide +kernel
theorem d_X_partsAreZero_13 : decode b_X_partsAreZero 13 = .ok (.aload_n 0, 1) := by decide +kernel
theorem d_X_partsAreZero_14 : decode b_X_partsAreZero 14 = .ok (.getfield 16, 3) := by decide +kernel
theorem d_X_partsAreZero_17 : decode b_X_partsAreZero 17 = .ok (.iconst 2, 1) := by decide +kernel
theorem d_X_partsAreZero_18 : decode b_X_partsAreZero 18 = .ok (.laload, 1) := by decide +kernel
theorem d_X_partsAreZero_19 : decode b_X_partsAreZero 19 = .ok (.lor, 1) := by decide +kernel
theorem d_X_partsAreZero_20 : decode b_X_partsAreZero 20 = .ok (.aload_n 0, 1) := by decide +kernel
theorem d_X_partsAreZero_21 : decode b_X_partsAreZero 21 = .ok (.getfield 16, 3) := by decide +kernel
theorem d_X_partsAreZero_24 : decode b_X_partsAreZero 24 = .ok (.iconst 3, 1) := by decide +kernel
theorem d_X_partsAreZero_25 : decode b_X_partsAreZero 25 = .ok (.laload, 1) := by decide +kernel
theorem d_X_partsAreZero_26 : decode b_X_partsAreZero 26 = .ok (.lor, 1) := by decide +kernel
theorem d_X_partsAreZero_27 : decode b_X_partsAreZero 27 = .ok (.lconst 0, 1) := by decide +kernel
theorem d_X_partsAreZero_28 : decode b_X_partsAreZero 28 = .ok (.lcmp, 1) := by decide +kernel
theorem d_X_partsAreZero_29 : decode b_X_partsAreZero 29 = .ok (.ifCond .ne 7, 3) := by decide +kernel
theorem d_X_partsAreZero_32 : decode b_X_partsAreZero 32 = .ok (.iconst 1, 1) := by decide +kernel
theorem d_X_partsAreZero_33 : decode b_X_partsAreZero 33 = .ok (.goto 4, 3) := by decide +kernel
theorem d_X_partsAreZero_36 : decode b_X_partsAreZero 36 = .ok (.iconst 0, 1) := by decide +kernel
theorem d_X_partsAreZero_37 : decode b_X_partsAreZero 37 = .ok (.ireturn, 1) := by decide +kernel
theorem d_X_next_0 : decode b_X_next 0 = .ok (.iload_n 1, 1) := by decide +kernel
theorem d_X_next_1 : decode b_X_next 1 = .ok (.invokestatic 27, 3) := by decide +kernel
theorem d_X_next_4 : decode b_X_next 4 = .ok (.iload_n 2, 1) := by decide +kernel
theorem d_X_next_5 : decode b_X_next 5 = .ok (.ifCond .lt 12, 3) := by decide +kernel
theorem d_X_next_8 : decode b_X_next 8 = .ok (.iload_n 2, 1) := by decide +kernel
theorem d_X_next_9 : decode b_X_next 9 = .ok (.i2l, 1) := by decide +kernel
theorem d_X_next_10 : decode b_X_next 10 = .ok (.ldc2_w 93, 3) := by decide +kernel
theorem d_X_next_13 : decode b_X_next 13 = .ok (.lcmp, 1) := by decide +kernel
theorem d_X_next_14 : decode b_X_next 14 = .ok (.ifCond .lt 13, 3) := by decide +kernel
theorem d_X_next_17 : decode b_X_next 17 = .ok (.new 72, 3) := by decide +kernel
theorem d_X_next_20 : decode b_X_next 20 = .ok (.dup, 1) := by decide +kernel
theorem d_X_next_21 : decode b_X_next 21 = .ok (.ldc 95, 2) := by decide +kernel
theorem d_X_next_23 : decode b_X_next 23 = .ok (.invokespecial 76, 3) := by decide +kernel
theorem d_X_next_26 : decode b_X_next 26 = .ok (.athrow, 1) := by decide +kernel
theorem d_X_next_27 : decode b_X_next 27 = .ok (.aload_n 0, 1) := by decide +kernel
theorem d_X_next_28 : decode b_X_next 28 = .ok (.getfield 13, 3) := by decide +kernel
theorem d_X_next_31 : decode b_X_next 31 = .ok (.iload_n 1, 1) := by decide +kernel
theorem d_X_next_32 : decode b_X_next 32 = .ok (.laload, 1) := by decide +kernel
theorem d_X_next_33 : decode b_X_next 33 = .ok (.ldc2_w 93, 3) := by decide +kernel
theorem d_X_next_36 : decode b_X_next 36 = .ok (.lmul, 1) := by decide +kernel
theorem d_X_next_37 : decode b_X_next 37 = .ok (.lstore_n 3, 1) := by decide +kernel
theorem d_X_next_38 : decode b_X_next 38 = .ok (.lload_n 3, 1) := by decide +kernel
theorem d_X_next_39 : decode b_X_next 39 = .ok (.iload_n 2, 1) := by decide +kernel
theorem d_X_next_40 : decode b_X_next 40 = .ok (.i2l, 1) := by decide +kernel
theorem d_X_next_41 : decode b_X_next 41 = .ok (.ladd, 1) := by decide +kernel
theorem d_X_next_42 : decode b_X_next 42 = .ok (.lstore 5, 2) := by decide +kernel
theorem d_X_next_44 : decode b_X_next 44 = .ok (.aload_n 0, 1) := by decide +kernel
theorem d_X_next_45 : decode b_X_next 45 = .ok (.getfield 13, 3) := by decide +kernel
theorem d_X_next_48 : decode b_X_next 48 = .ok (.iload_n 1, 1) := by decide +kernel
theorem d_X_next_49 : decode b_X_next 49 = .ok (.laload, 1) := by decide +kernel
theorem d_X_next_50 : decode b_X_next 50 = .ok (.ldc2_w 93, 3) := by decide +kernel
theorem d_X_next_53 : decode b_X_next 53 = .ok (.invokestatic 97, 3) := by decide +kernel
theorem d_X_next_56 : decode b_X_next 56 = .ok (.lload 5, 2) := by decide +kernel
theorem d_X_next_58 : decode b_X_next 58 = .ok (.lload_n 3, 1) := by decide +kernel
theorem d_X_next_59 : decode b_X_next 59 = .ok (.invokestatic 35, 3) := by decide +kernel
theorem d_X_next_62 : decode b_X_next 62 = .ok (.ladd, 1) := by decide +kernel
theorem d_X_next_63 : decode b_X_next 63 = .ok (.lstore 7, 2) := by decide +kernel
theorem d_X_next_65 : decode b_X_next 65 = .ok (.aload_n 0, 1) := by decide +kernel
theorem d_X_next_66 : decode b_X_next 66 = .ok (.getfield 9, 3) := by decide +kernel
theorem d_X_next_69 : decode b_X_next 69 = .ok (.iload_n 1, 1) := by decide +kernel
theorem d_X_next_70 : decode b_X_next 70 = .ok (.laload, 1) := by decide +kernel
theorem d_X_next_71 : decode b_X_next 71 = .ok (.ldc2_w 93, 3) := by decide +kernel
theorem d_X_next_74 : decode b_X_next 74 = .ok (.lmul, 1) := by decide +kernel
theorem d_X_next_75 : decode b_X_next 75 = .ok (.lload 7, 2) := by decide +kernel
theorem d_X_next_77 : decode b_X_next 77 = .ok (.ladd, 1) := by decide +kernel
theorem d_X_next_78 : decode b_X_next 78 = .ok (.lstore 9, 2) := by decide +kernel
theorem d_X_next_80 : decode b_X_next 80 = .ok (.aload_n 0, 1) := by decide +kernel
theorem d_X_next_81 : decode b_X_next 81 = .ok (.getfield 9, 3) := by decide +kernel
theorem d_X_next_84 : decode b_X_next 84 = .ok (.iload_n 1, 1) := by decide +kernel
theorem d_X_next_85 : decode b_X_next 85 = .ok (.laload, 1) := by decide +kernel
theorem d_X_next_86 : decode b_X_next 86 = .ok (.ldc2_w 93, 3) := by decide +kernel
theorem d_X_next_89 : decode b_X_next 89 = .ok (.invokestatic 97, 3) := by decide +kernel
theorem d_X_next_92 : decode b_X_next 92 = .ok (.lload 9, 2) := by decide +kernel
theorem d_X_next_94 : decode b_X_next 94 = .ok (.lload 7, 2) := by decide +kernel
theorem d_X_next_96 : decode b_X_next 96 = .ok (.invokestatic 35, 3) := by decide +kernel
theorem d_X_next_99 : decode b_X_next 99 = .ok (.ladd, 1) := by decide +kernel
theorem d_X_next_100 : decode b_X_next 100 = .ok (.lconst 0, 1) := by decide +kernel
theorem d_X_next_101 : decode b_X_next 101 = .ok (.lcmp, 1) := by decide +kernel
theorem d_X_next_102 : decode b_X_next 102 = .ok (.ifCond .eq 5, 3) := by decide +kernel
theorem d_X_next_105 : decode b_X_next 105 = .ok (.iconst 0, 1) := by decide +kernel
theorem d_X_next_106 : decode b_X_next 106 = .ok (.ireturn, 1) := by decide +kernel
theorem d_X_next_107 : decode b_X_next 107 = .ok (.aload_n 0, 1) := by decide +kernel
theorem d_X_next_108 : decode b_X_next 108 = .ok (.iload_n 1, 1) := by decide +kernel
theorem d_X_next_109 : decode b_X_next 109 = .ok (.lload 9, 2) := by decide +kernel
theorem d_X_next_111 : decode b_X_next 111 = .ok (.lload 5, 2) := by decide +kernel
theorem d_X_next_113 : decode b_X_next 113 = .ok (.invokevirtual 31, 3) := by decide +kernel
theorem d_X_next_116 : decode b_X_next 116 = .ok (.iconst 1, 1) := by decide +kernel
theorem d_X_next_117 : decode b_X_next 117 = .ok (.ireturn, 1) := by decide +kernel
