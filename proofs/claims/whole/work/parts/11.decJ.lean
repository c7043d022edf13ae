theorem d_Jl_compareUnsigned_0 : decode b_Jl_compareUnsigned 0 = .ok (.lload_n 0, 1) := by decide +kernel
theorem d_Jl_compareUnsigned_1 : decode b_Jl_compareUnsigned 1 = .ok (.ldc2_w 168, 3) := by decide +kernel
theorem d_Jl_compareUnsigned_4 : decode b_Jl_compareUnsigned 4 = .ok (.ladd, 1) := by decide +kernel
theorem d_Jl_compareUnsigned_5 : decode b_Jl_compareUnsigned 5 = .ok (.lload_n 2, 1) := by decide +kernel
theorem d_Jl_compareUnsigned_6 : decode b_Jl_compareUnsigned 6 = .ok (.ldc2_w 168, 3) := by decide +kernel
theorem d_Jl_compareUnsigned_9 : decode b_Jl_compareUnsigned 9 = .ok (.ladd, 1) := by decide +kernel
theorem d_Jl_compareUnsigned_10 : decode b_Jl_compareUnsigned 10 = .ok (.invokestatic 302, 3) := by decide +kernel
theorem d_Jl_compareUnsigned_13 : decode b_Jl_compareUnsigned 13 = .ok (.ireturn, 1) := by decide +kernel
theorem d_Jl_compare_0 : decode b_Jl_compare 0 = .ok (.lload_n 0, 1) := by decide +kernel
theorem d_Jl_compare_1 : decode b_Jl_compare 1 = .ok (.lload_n 2, 1) := by decide +kernel
theorem d_Jl_compare_2 : decode b_Jl_compare 2 = .ok (.lcmp, 1) := by decide +kernel
theorem d_Jl_compare_3 : decode b_Jl_compare 3 = .ok (.ifCond .ge 7, 3) := by decide +kernel
theorem d_Jl_compare_6 : decode b_Jl_compare 6 = .ok (.iconst (-1), 1) := by decide +kernel
theorem d_Jl_compare_7 : decode b_Jl_compare 7 = .ok (.goto 14, 3) := by decide +kernel
theorem d_Jl_compare_10 : decode b_Jl_compare 10 = .ok (.lload_n 0, 1) := by decide +kernel
theorem d_Jl_compare_11 : decode b_Jl_compare 11 = .ok (.lload_n 2, 1) := by decide +kernel
theorem d_Jl_compare_12 : decode b_Jl_compare 12 = .ok (.lcmp, 1) := by decide +kernel
theorem d_Jl_compare_13 : decode b_Jl_compare 13 = .ok (.ifCond .ne 7, 3) := by decide +kernel
theorem d_Jl_compare_16 : decode b_Jl_compare 16 = .ok (.iconst 0, 1) := by decide +kernel
theorem d_Jl_compare_17 : decode b_Jl_compare 17 = .ok (.goto 4, 3) := by decide +kernel
theorem d_Jl_compare_20 : decode b_Jl_compare 20 = .ok (.iconst 1, 1) := by decide +kernel
theorem d_Jl_compare_21 : decode b_Jl_compare 21 = .ok (.ireturn, 1) := by decide +kernel
theorem d_Jl_numberOfLeadingZeros_0 : decode b_Jl_numberOfLeadingZeros 0 = .ok (.lload_n 0, 1) := by decide +kernel
theorem d_Jl_numberOfLeadingZeros_1 : decode b_Jl_numberOfLeadingZeros 1 = .ok (.bipush 32, 2) := by decide +kernel
theorem d_Jl_numberOfLeadingZeros_3 : decode b_Jl_numberOfLeadingZeros 3 = .ok (.lushr, 1) := by decide +kernel
theorem d_Jl_numberOfLeadingZeros_4 : decode b_Jl_numberOfLeadingZeros 4 = .ok (.l2i, 1) := by decide +kernel
theorem d_Jl_numberOfLeadingZeros_5 : decode b_Jl_numberOfLeadingZeros 5 = .ok (.istore_n 2, 1) := by decide +kernel
theorem d_Jl_numberOfLeadingZeros_6 : decode b_Jl_numberOfLeadingZeros 6 = .ok (.iload_n 2, 1) := by decide +kernel
theorem d_Jl_numberOfLeadingZeros_7 : decode b_Jl_numberOfLeadingZeros 7 = .ok (.ifCond .ne 14, 3) := by decide +kernel
theorem d_Jl_numberOfLeadingZeros_10 : decode b_Jl_numberOfLeadingZeros 10 = .ok (.bipush 32, 2) := by decide +kernel
theorem d_Jl_numberOfLeadingZeros_12 : decode b_Jl_numberOfLeadingZeros 12 = .ok (.lload_n 0, 1) := by decide +kernel
theorem d_Jl_numberOfLeadingZeros_13 : decode b_Jl_numberOfLeadingZeros 13 = .ok (.l2i, 1) := by decide +kernel
theorem d_Jl_numberOfLeadingZeros_14 : decode b_Jl_numberOfLeadingZeros 14 = .ok (.invokestatic 308, 3) := by decide +kernel
theorem d_Jl_numberOfLeadingZeros_17 : decode b_Jl_numberOfLeadingZeros 17 = .ok (.iadd, 1) := by decide +kernel
theorem d_Jl_numberOfLeadingZeros_18 : decode b_Jl_numberOfLeadingZeros 18 = .ok (.goto 7, 3) := by decide +kernel
theorem d_Jl_numberOfLeadingZeros_21 : decode b_Jl_numberOfLeadingZeros 21 = .ok (.iload_n 2, 1) := by decide +kernel
theorem d_Jl_numberOfLeadingZeros_22 : decode b_Jl_numberOfLeadingZeros 22 = .ok (.invokestatic 308, 3) := by decide +kernel
theorem d_Jl_numberOfLeadingZeros_25 : decode b_Jl_numberOfLeadingZeros 25 = .ok (.ireturn, 1) := by decide +kernel
theorem d_Ji_numberOfLeadingZeros_0 : decode b_Ji_numberOfLeadingZeros 0 = .ok (.iload_n 0, 1) := by decide +kernel
theorem d_Ji_numberOfLeadingZeros_1 : decode b_Ji_numberOfLeadingZeros 1 = .ok (.ifCond .gt 14, 3) := by decide +kernel
theorem d_Ji_numberOfLeadingZeros_4 : decode b_Ji_numberOfLeadingZeros 4 = .ok (.iload_n 0, 1) := by decide +kernel
theorem d_Ji_numberOfLeadingZeros_5 : decode b_Ji_numberOfLeadingZeros 5 = .ok (.ifCond .ne 8, 3) := by decide +kernel
theorem d_Ji_numberOfLeadingZeros_8 : decode b_Ji_numberOfLeadingZeros 8 = .ok (.bipush 32, 2) := by decide +kernel
theorem d_Ji_numberOfLeadingZeros_10 : decode b_Ji_numberOfLeadingZeros 10 = .ok (.goto 4, 3) := by decide +kernel
theorem d_Ji_numberOfLeadingZeros_13 : decode b_Ji_numberOfLeadingZeros 13 = .ok (.iconst 0, 1) := by decide +kernel
theorem d_Ji_numberOfLeadingZeros_14 : decode b_Ji_numberOfLeadingZeros 14 = .ok (.ireturn, 1) := by decide +kernel
theorem d_Ji_numberOfLeadingZeros_15 : decode b_Ji_numberOfLeadingZeros 15 = .ok (.bipush 31, 2) := by decide +kernel
theorem d_Ji_numberOfLeadingZeros_17 : decode b_Ji_numberOfLeadingZeros 17 = .ok (.istore_n 1, 1) := by decide +kernel
theorem d_Ji_numberOfLeadingZeros_18 : decode b_Ji_numberOfLeadingZeros 18 = .ok (.iload_n 0, 1) := by decide +kernel
theorem d_Ji_numberOfLeadingZeros_19 : decode b_Ji_numberOfLeadingZeros 19 = .ok (.ldc_w 264, 3) := by decide +kernel
theorem d_Ji_numberOfLeadingZeros_22 : decode b_Ji_numberOfLeadingZeros 22 = .ok (.if_icmp .lt 11, 3) := by decide +kernel
theorem d_Ji_numberOfLeadingZeros_25 : decode b_Ji_numberOfLeadingZeros 25 = .ok (.iinc 1 (-16), 3) := by decide +kernel
theorem d_Ji_numberOfLeadingZeros_28 : decode b_Ji_numberOfLeadingZeros 28 = .ok (.iload_n 0, 1) := by decide +kernel
theorem d_Ji_numberOfLeadingZeros_29 : decode b_Ji_numberOfLeadingZeros 29 = .ok (.bipush 16, 2) := by decide +kernel
theorem d_Ji_numberOfLeadingZeros_31 : decode b_Ji_numberOfLeadingZeros 31 = .ok (.iushr, 1) := by decide +kernel
theorem d_Ji_numberOfLeadingZeros_32 : decode b_Ji_numberOfLeadingZeros 32 = .ok (.istore_n 0, 1) := by decide +kernel
theorem d_Ji_numberOfLeadingZeros_33 : decode b_Ji_numberOfLeadingZeros 33 = .ok (.iload_n 0, 1) := by decide +kernel
theorem d_Ji_numberOfLeadingZeros_34 : decode b_Ji_numberOfLeadingZeros 34 = .ok (.sipush 256, 3) := by decide +kernel
theorem d_Ji_numberOfLeadingZeros_37 : decode b_Ji_numberOfLeadingZeros 37 = .ok (.if_icmp .lt 11, 3) := by decide +kernel
theorem d_Ji_numberOfLeadingZeros_40 : decode b_Ji_numberOfLeadingZeros 40 = .ok (.iinc 1 (-8), 3) := by decide +kernel
theorem d_Ji_numberOfLeadingZeros_43 : decode b_Ji_numberOfLeadingZeros 43 = .ok (.iload_n 0, 1) := by decide +kernel
theorem d_Ji_numberOfLeadingZeros_44 : decode b_Ji_numberOfLeadingZeros 44 = .ok (.bipush 8, 2) := by decide +kernel
theorem d_Ji_numberOfLeadingZeros_46 : decode b_Ji_numberOfLeadingZeros 46 = .ok (.iushr, 1) := by decide +kernel
theorem d_Ji_numberOfLeadingZeros_47 : decode b_Ji_numberOfLeadingZeros 47 = .ok (.istore_n 0, 1) := by decide +kernel
theorem d_Ji_numberOfLeadingZeros_48 : decode b_Ji_numberOfLeadingZeros 48 = .ok (.iload_n 0, 1) := by decide +kernel
theorem d_Ji_numberOfLeadingZeros_49 : decode b_Ji_numberOfLeadingZeros 49 = .ok (.bipush 16, 2) := by decide +kernel
theorem d_Ji_numberOfLeadingZeros_51 : decode b_Ji_numberOfLeadingZeros 51 = .ok (.if_icmp .lt 10, 3) := by decide +kernel
theorem d_Ji_numberOfLeadingZeros_54 : decode b_Ji_numberOfLeadingZeros 54 = .ok (.iinc 1 (-4), 3) := by decide +kernel
theorem d_Ji_numberOfLeadingZeros_57 : decode b_Ji_numberOfLeadingZeros 57 = .ok (.iload_n 0, 1) := by decide +kernel
theorem d_Ji_numberOfLeadingZeros_58 : decode b_Ji_numberOfLeadingZeros 58 = .ok (.iconst 4, 1) := by decide +kernel
theorem d_Ji_numberOfLeadingZeros_59 : decode b_Ji_numberOfLeadingZeros 59 = .ok (.iushr, 1) := by decide +kernel
theorem d_Ji_numberOfLeadingZeros_60 : decode b_Ji_numberOfLeadingZeros 60 = .ok (.istore_n 0, 1) := by decide +kernel
theorem d_Ji_numberOfLeadingZeros_61 : decode b_Ji_numberOfLeadingZeros 61 = .ok (.iload_n 0, 1) := by decide +kernel
theorem d_Ji_numberOfLeadingZeros_62 : decode b_Ji_numberOfLeadingZeros 62 = .ok (.iconst 4, 1) := by decide +kernel
theorem d_Ji_numberOfLeadingZeros_63 : decode b_Ji_numberOfLeadingZeros 63 = .ok (.if_icmp .lt 10, 3) := by decide +kernel
theorem d_Ji_numberOfLeadingZeros_66 : decode b_Ji_numberOfLeadingZeros 66 = .ok (.iinc 1 (-2), 3) := by decide +kernel
theorem d_Ji_numberOfLeadingZeros_69 : decode b_Ji_numberOfLeadingZeros 69 = .ok (.iload_n 0, 1) := by decide +kernel
theorem d_Ji_numberOfLeadingZeros_70 : decode b_Ji_numberOfLeadingZeros 70 = .ok (.iconst 2, 1) := by decide +kernel
theorem d_Ji_numberOfLeadingZeros_71 : decode b_Ji_numberOfLeadingZeros 71 = .ok (.iushr, 1) := by decide +kernel
theorem d_Ji_numberOfLeadingZeros_72 : decode b_Ji_numberOfLeadingZeros 72 = .ok (.istore_n 0, 1) := by decide +kernel
theorem d_Ji_numberOfLeadingZeros_73 : decode b_Ji_numberOfLeadingZeros 73 = .ok (.iload_n 1, 1) := by decide +kernel
theorem d_Ji_numberOfLeadingZeros_74 : decode b_Ji_numberOfLeadingZeros 74 = .ok (.iload_n 0, 1) := by decide +kernel
theorem d_Ji_numberOfLeadingZeros_75 : decode b_Ji_numberOfLeadingZeros 75 = .ok (.iconst 1, 1) := by decide +kernel
theorem d_Ji_numberOfLeadingZeros_76 : decode b_Ji_numberOfLeadingZeros 76 = .ok (.iushr, 1) := by decide +kernel
theorem d_Ji_numberOfLeadingZeros_77 : decode b_Ji_numberOfLeadingZeros 77 = .ok (.isub, 1) := by decide +kernel
theorem d_Ji_numberOfLeadingZeros_78 : decode b_Ji_numberOfLeadingZeros 78 = .ok (.ireturn, 1) := by decide +kernel
theorem d_Jl_numberOfTrailingZeros_0 : decode b_Jl_numberOfTrailingZeros 0 = .ok (.lload_n 0, 1) := by decide +kernel
theorem d_Jl_numberOfTrailingZeros_1 : decode b_Jl_numberOfTrailingZeros 1 = .ok (.l2i, 1) := by decide +kernel
theorem d_Jl_numberOfTrailingZeros_2 : decode b_Jl_numberOfTrailingZeros 2 = .ok (.istore_n 2, 1) := by decide +kernel
theorem d_Jl_numberOfTrailingZeros_3 : decode b_Jl_numberOfTrailingZeros 3 = .ok (.iload_n 2, 1) := by decide +kernel
theorem d_Jl_numberOfTrailingZeros_4 : decode b_Jl_numberOfTrailingZeros 4 = .ok (.ifCond .ne 17, 3) := by decide +kernel
theorem d_Jl_numberOfTrailingZeros_7 : decode b_Jl_numberOfTrailingZeros 7 = .ok (.bipush 32, 2) := by decide +kernel
theorem d_Jl_numberOfTrailingZeros_9 : decode b_Jl_numberOfTrailingZeros 9 = .ok (.lload_n 0, 1) := by decide +kernel
theorem d_Jl_numberOfTrailingZeros_10 : decode b_Jl_numberOfTrailingZeros 10 = .ok (.bipush 32, 2) := by decide +kernel
theorem d_Jl_numberOfTrailingZeros_12 : decode b_Jl_numberOfTrailingZeros 12 = .ok (.lushr, 1) := by decide +kernel
theorem d_Jl_numberOfTrailingZeros_13 : decode b_Jl_numberOfTrailingZeros 13 = .ok (.l2i, 1) := by decide +kernel
theorem d_Jl_numberOfTrailingZeros_14 : decode b_Jl_numberOfTrailingZeros 14 = .ok (.invokestatic 311, 3) := by decide +kernel
theorem d_Jl_numberOfTrailingZeros_17 : decode b_Jl_numberOfTrailingZeros 17 = .ok (.iadd, 1) := by decide +kernel
theorem d_Jl_numberOfTrailingZeros_18 : decode b_Jl_numberOfTrailingZeros 18 = .ok (.goto 7, 3) := by decide +kernel
theorem d_Jl_numberOfTrailingZeros_21 : decode b_Jl_numberOfTrailingZeros 21 = .ok (.iload_n 2, 1) := by decide +kernel
theorem d_Jl_numberOfTrailingZeros_22 : decode b_Jl_numberOfTrailingZeros 22 = .ok (.invokestatic 311, 3) := by decide +kernel
theorem d_Jl_numberOfTrailingZeros_25 : decode b_Jl_numberOfTrailingZeros 25 = .ok (.ireturn, 1) := by decide +kernel
theorem d_Ji_numberOfTrailingZeros_0 : decode b_Ji_numberOfTrailingZeros 0 = .ok (.iload_n 0, 1) := by decide +kernel
theorem d_Ji_numberOfTrailingZeros_1 : decode b_Ji_numberOfTrailingZeros 1 = .ok (.iconst (-1), 1) := by decide +kernel
theorem d_Ji_numberOfTrailingZeros_2 : decode b_Ji_numberOfTrailingZeros 2 = .ok (.ixor, 1) := by decide +kernel
theorem d_Ji_numberOfTrailingZeros_3 : decode b_Ji_numberOfTrailingZeros 3 = .ok (.iload_n 0, 1) := by decide +kernel
theorem d_Ji_numberOfTrailingZeros_4 : decode b_Ji_numberOfTrailingZeros 4 = .ok (.iconst 1, 1) := by decide +kernel
theorem d_Ji_numberOfTrailingZeros_5 : decode b_Ji_numberOfTrailingZeros 5 = .ok (.isub, 1) := by decide +kernel
theorem d_Ji_numberOfTrailingZeros_6 : decode b_Ji_numberOfTrailingZeros 6 = .ok (.iand, 1) := by decide +kernel
theorem d_Ji_numberOfTrailingZeros_7 : decode b_Ji_numberOfTrailingZeros 7 = .ok (.istore_n 0, 1) := by decide +kernel
theorem d_Ji_numberOfTrailingZeros_8 : decode b_Ji_numberOfTrailingZeros 8 = .ok (.iload_n 0, 1) := by decide +kernel
theorem d_Ji_numberOfTrailingZeros_9 : decode b_Ji_numberOfTrailingZeros 9 = .ok (.ifCond .gt 8, 3) := by decide +kernel
theorem d_Ji_numberOfTrailingZeros_12 : decode b_Ji_numberOfTrailingZeros 12 = .ok (.iload_n 0, 1) := by decide +kernel
theorem d_Ji_numberOfTrailingZeros_13 : decode b_Ji_numberOfTrailingZeros 13 = .ok (.bipush 32, 2) := by decide +kernel
theorem d_Ji_numberOfTrailingZeros_15 : decode b_Ji_numberOfTrailingZeros 15 = .ok (.iand, 1) := by decide +kernel
theorem d_Ji_numberOfTrailingZeros_16 : decode b_Ji_numberOfTrailingZeros 16 = .ok (.ireturn, 1) := by decide +kernel
theorem d_Ji_numberOfTrailingZeros_17 : decode b_Ji_numberOfTrailingZeros 17 = .ok (.iconst 1, 1) := by decide +kernel
theorem d_Ji_numberOfTrailingZeros_18 : decode b_Ji_numberOfTrailingZeros 18 = .ok (.istore_n 1, 1) := by decide +kernel
theorem d_Ji_numberOfTrailingZeros_19 : decode b_Ji_numberOfTrailingZeros 19 = .ok (.iload_n 0, 1) := by decide +kernel
theorem d_Ji_numberOfTrailingZeros_20 : decode b_Ji_numberOfTrailingZeros 20 = .ok (.ldc_w 264, 3) := by decide +kernel
theorem d_Ji_numberOfTrailingZeros_23 : decode b_Ji_numberOfTrailingZeros 23 = .ok (.if_icmp .le 11, 3) := by decide +kernel
theorem d_Ji_numberOfTrailingZeros_26 : decode b_Ji_numberOfTrailingZeros 26 = .ok (.iinc 1 16, 3) := by decide +kernel
theorem d_Ji_numberOfTrailingZeros_29 : decode b_Ji_numberOfTrailingZeros 29 = .ok (.iload_n 0, 1) := by decide +kernel
theorem d_Ji_numberOfTrailingZeros_30 : decode b_Ji_numberOfTrailingZeros 30 = .ok (.bipush 16, 2) := by decide +kernel
theorem d_Ji_numberOfTrailingZeros_32 : decode b_Ji_numberOfTrailingZeros 32 = .ok (.iushr, 1) := by decide +kernel
theorem d_Ji_numberOfTrailingZeros_33 : decode b_Ji_numberOfTrailingZeros 33 = .ok (.istore_n 0, 1) := by decide +kernel
theorem d_Ji_numberOfTrailingZeros_34 : decode b_Ji_numberOfTrailingZeros 34 = .ok (.iload_n 0, 1) := by decide +kernel
theorem d_Ji_numberOfTrailingZeros_35 : decode b_Ji_numberOfTrailingZeros 35 = .ok (.sipush 256, 3) := by decide +kernel
theorem d_Ji_numberOfTrailingZeros_38 : decode b_Ji_numberOfTrailingZeros 38 = .ok (.if_icmp .le 11, 3) := by decide +kernel
theorem d_Ji_numberOfTrailingZeros_41 : decode b_Ji_numberOfTrailingZeros 41 = .ok (.iinc 1 8, 3) := by decide +kernel
theorem d_Ji_numberOfTrailingZeros_44 : decode b_Ji_numberOfTrailingZeros 44 = .ok (.iload_n 0, 1) := by decide +kernel
theorem d_Ji_numberOfTrailingZeros_45 : decode b_Ji_numberOfTrailingZeros 45 = .ok (.bipush 8, 2) := by decide +kernel
theorem d_Ji_numberOfTrailingZeros_47 : decode b_Ji_numberOfTrailingZeros 47 = .ok (.iushr, 1) := by decide +kernel
theorem d_Ji_numberOfTrailingZeros_48 : decode b_Ji_numberOfTrailingZeros 48 = .ok (.istore_n 0, 1) := by decide +kernel
theorem d_Ji_numberOfTrailingZeros_49 : decode b_Ji_numberOfTrailingZeros 49 = .ok (.iload_n 0, 1) := by decide +kernel
theorem d_Ji_numberOfTrailingZeros_50 : decode b_Ji_numberOfTrailingZeros 50 = .ok (.bipush 16, 2) := by decide +kernel
theorem d_Ji_numberOfTrailingZeros_52 : decode b_Ji_numberOfTrailingZeros 52 = .ok (.if_icmp .le 10, 3) := by decide +kernel
theorem d_Ji_numberOfTrailingZeros_55 : decode b_Ji_numberOfTrailingZeros 55 = .ok (.iinc 1 4, 3) := by decide +kernel
theorem d_Ji_numberOfTrailingZeros_58 : decode b_Ji_numberOfTrailingZeros 58 = .ok (.iload_n 0, 1) := by decide +kernel
theorem d_Ji_numberOfTrailingZeros_59 : decode b_Ji_numberOfTrailingZeros 59 = .ok (.iconst 4, 1) := by decide +kernel
theorem d_Ji_numberOfTrailingZeros_60 : decode b_Ji_numberOfTrailingZeros 60 = .ok (.iushr, 1) := by decide +kernel
theorem d_Ji_numberOfTrailingZeros_61 : decode b_Ji_numberOfTrailingZeros 61 = .ok (.istore_n 0, 1) := by decide +kernel
theorem d_Ji_numberOfTrailingZeros_62 : decode b_Ji_numberOfTrailingZeros 62 = .ok (.iload_n 0, 1) := by decide +kernel
theorem d_Ji_numberOfTrailingZeros_63 : decode b_Ji_numberOfTrailingZeros 63 = .ok (.iconst 4, 1) := by decide +kernel
theorem d_Ji_numberOfTrailingZeros_64 : decode b_Ji_numberOfTrailingZeros 64 = .ok (.if_icmp .le 10, 3) := by decide +kernel
theorem d_Ji_numberOfTrailingZeros_67 : decode b_Ji_numberOfTrailingZeros 67 = .ok (.iinc 1 2, 3) := by decide +kernel
theorem d_Ji_numberOfTrailingZeros_70 : decode b_Ji_numberOfTrailingZeros 70 = .ok (.iload_n 0, 1) := by decide +kernel
theorem d_Ji_numberOfTrailingZeros_71 : decode b_Ji_numberOfTrailingZeros 71 = .ok (.iconst 2, 1) := by decide +kernel
theorem d_Ji_numberOfTrailingZeros_72 : decode b_Ji_numberOfTrailingZeros 72 = .ok (.iushr, 1) := by decide +kernel
theorem d_Ji_numberOfTrailingZeros_73 : decode b_Ji_numberOfTrailingZeros 73 = .ok (.istore_n 0, 1) := by decide +kernel
theorem d_Ji_numberOfTrailingZeros_74 : decode b_Ji_numberOfTrailingZeros 74 = .ok (.iload_n 1, 1) := by decide +kernel
theorem d_Ji_numberOfTrailingZeros_75 : decode b_Ji_numberOfTrailingZeros 75 = .ok (.iload_n 0, 1) := by decide +kernel
theorem d_Ji_numberOfTrailingZeros_76 : decode b_Ji_numberOfTrailingZeros 76 = .ok (.iconst 1, 1) := by decide +kernel
theorem d_Ji_numberOfTrailingZeros_77 : decode b_Ji_numberOfTrailingZeros 77 = .ok (.iushr, 1) := by decide +kernel
theorem d_Ji_numberOfTrailingZeros_78 : decode b_Ji_numberOfTrailingZeros 78 = .ok (.iadd, 1) := by decide +kernel
theorem d_Ji_numberOfTrailingZeros_79 : decode b_Ji_numberOfTrailingZeros 79 = .ok (.ireturn, 1) := by decide +kernel
