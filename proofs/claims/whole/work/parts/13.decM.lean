theorem d_M_init_0 : decode b_M_init 0 = .ok (.aload_n 0, 1) := by decide +kernel
theorem d_M_init_1 : decode b_M_init 1 = .ok (.invokespecial 1, 3) := by decide +kernel
theorem d_M_init_4 : decode b_M_init 4 = .ok (.aload_n 0, 1) := by decide +kernel
theorem d_M_init_5 : decode b_M_init 5 = .ok (.sipush 1280, 3) := by decide +kernel
theorem d_M_init_8 : decode b_M_init 8 = .ok (.newarray .boolean, 2) := by decide +kernel
theorem d_M_init_10 : decode b_M_init 10 = .ok (.putfield 7, 3) := by decide +kernel
theorem d_M_init_13 : decode b_M_init 13 = .ok (.aload_n 0, 1) := by decide +kernel
theorem d_M_init_14 : decode b_M_init 14 = .ok (.sipush 256, 3) := by decide +kernel
theorem d_M_init_17 : decode b_M_init 17 = .ok (.newarray .boolean, 2) := by decide +kernel
theorem d_M_init_19 : decode b_M_init 19 = .ok (.putfield 13, 3) := by decide +kernel
theorem d_M_init_22 : decode b_M_init 22 = .ok (.aload_n 0, 1) := by decide +kernel
theorem d_M_init_23 : decode b_M_init 23 = .ok (.sipush 128, 3) := by decide +kernel
theorem d_M_init_26 : decode b_M_init 26 = .ok (.newarray .boolean, 2) := by decide +kernel
theorem d_M_init_28 : decode b_M_init 28 = .ok (.putfield 16, 3) := by decide +kernel
theorem d_M_init_31 : decode b_M_init 31 = .ok (.aload_n 0, 1) := by decide +kernel
theorem d_M_init_32 : decode b_M_init 32 = .ok (.sipush 130, 3) := by decide +kernel
theorem d_M_init_35 : decode b_M_init 35 = .ok (.newarray .boolean, 2) := by decide +kernel
theorem d_M_init_37 : decode b_M_init 37 = .ok (.putfield 19, 3) := by decide +kernel
theorem d_M_init_40 : decode b_M_init 40 = .ok (.aload_n 0, 1) := by decide +kernel
theorem d_M_init_41 : decode b_M_init 41 = .ok (.bipush 39, 2) := by decide +kernel
theorem d_M_init_43 : decode b_M_init 43 = .ok (.newarray .int, 2) := by decide +kernel
theorem d_M_init_45 : decode b_M_init 45 = .ok (.putfield 22, 3) := by decide +kernel
theorem d_M_init_48 : decode b_M_init 48 = .ok (.return_, 1) := by decide +kernel
theorem d_M_thrown_0 : decode b_M_thrown 0 = .ok (.aload_n 0, 1) := by decide +kernel
theorem d_M_thrown_1 : decode b_M_thrown 1 = .ok (.getfield 26, 3) := by decide +kernel
theorem d_M_thrown_4 : decode b_M_thrown 4 = .ok (.ireturn, 1) := by decide +kernel
theorem d_M_set_0 : decode b_M_set 0 = .ok (.aload_n 0, 1) := by decide +kernel
theorem d_M_set_1 : decode b_M_set 1 = .ok (.iload_n 1, 1) := by decide +kernel
theorem d_M_set_2 : decode b_M_set 2 = .ok (.invokestatic 30, 3) := by decide +kernel
theorem d_M_set_5 : decode b_M_set 5 = .ok (.ifCond .eq 7, 3) := by decide +kernel
theorem d_M_set_8 : decode b_M_set 8 = .ok (.iconst 1, 1) := by decide +kernel
theorem d_M_set_9 : decode b_M_set 9 = .ok (.goto 4, 3) := by decide +kernel
theorem d_M_set_12 : decode b_M_set 12 = .ok (.iconst 0, 1) := by decide +kernel
theorem d_M_set_13 : decode b_M_set 13 = .ok (.putfield 26, 3) := by decide +kernel
theorem d_M_set_16 : decode b_M_set 16 = .ok (.iconst 0, 1) := by decide +kernel
theorem d_M_set_17 : decode b_M_set 17 = .ok (.istore 6, 2) := by decide +kernel
theorem d_M_set_19 : decode b_M_set 19 = .ok (.iload 6, 2) := by decide +kernel
theorem d_M_set_21 : decode b_M_set 21 = .ok (.sipush 128, 3) := by decide +kernel
theorem d_M_set_24 : decode b_M_set 24 = .ok (.if_icmp .ge 63, 3) := by decide +kernel
theorem d_M_set_27 : decode b_M_set 27 = .ok (.aload_n 0, 1) := by decide +kernel
theorem d_M_set_28 : decode b_M_set 28 = .ok (.getfield 26, 3) := by decide +kernel
theorem d_M_set_31 : decode b_M_set 31 = .ok (.ifCond .ne 56, 3) := by decide +kernel
theorem d_M_set_34 : decode b_M_set 34 = .ok (.aload_n 0, 1) := by decide +kernel
theorem d_M_set_35 : decode b_M_set 35 = .ok (.getfield 7, 3) := by decide +kernel
theorem d_M_set_38 : decode b_M_set 38 = .ok (.sipush 128, 3) := by decide +kernel
theorem d_M_set_41 : decode b_M_set 41 = .ok (.iload_n 1, 1) := by decide +kernel
theorem d_M_set_42 : decode b_M_set 42 = .ok (.imul, 1) := by decide +kernel
theorem d_M_set_43 : decode b_M_set 43 = .ok (.iload 6, 2) := by decide +kernel
theorem d_M_set_45 : decode b_M_set 45 = .ok (.iadd, 1) := by decide +kernel
theorem d_M_set_46 : decode b_M_set 46 = .ok (.iload 6, 2) := by decide +kernel
theorem d_M_set_48 : decode b_M_set 48 = .ok (.bipush 64, 2) := by decide +kernel
theorem d_M_set_50 : decode b_M_set 50 = .ok (.if_icmp .ge 11, 3) := by decide +kernel
theorem d_M_set_53 : decode b_M_set 53 = .ok (.lload 4, 2) := by decide +kernel
theorem d_M_set_55 : decode b_M_set 55 = .ok (.iload 6, 2) := by decide +kernel
theorem d_M_set_57 : decode b_M_set 57 = .ok (.lshr, 1) := by decide +kernel
theorem d_M_set_58 : decode b_M_set 58 = .ok (.goto 10, 3) := by decide +kernel
theorem d_M_set_61 : decode b_M_set 61 = .ok (.lload_n 2, 1) := by decide +kernel
theorem d_M_set_62 : decode b_M_set 62 = .ok (.iload 6, 2) := by decide +kernel
theorem d_M_set_64 : decode b_M_set 64 = .ok (.bipush 64, 2) := by decide +kernel
theorem d_M_set_66 : decode b_M_set 66 = .ok (.isub, 1) := by decide +kernel
theorem d_M_set_67 : decode b_M_set 67 = .ok (.lshr, 1) := by decide +kernel
theorem d_M_set_68 : decode b_M_set 68 = .ok (.lconst 1, 1) := by decide +kernel
theorem d_M_set_69 : decode b_M_set 69 = .ok (.land, 1) := by decide +kernel
theorem d_M_set_70 : decode b_M_set 70 = .ok (.lconst 1, 1) := by decide +kernel
theorem d_M_set_71 : decode b_M_set 71 = .ok (.lcmp, 1) := by decide +kernel
theorem d_M_set_72 : decode b_M_set 72 = .ok (.ifCond .ne 7, 3) := by decide +kernel
theorem d_M_set_75 : decode b_M_set 75 = .ok (.iconst 1, 1) := by decide +kernel
theorem d_M_set_76 : decode b_M_set 76 = .ok (.goto 4, 3) := by decide +kernel
theorem d_M_set_79 : decode b_M_set 79 = .ok (.iconst 0, 1) := by decide +kernel
theorem d_M_set_80 : decode b_M_set 80 = .ok (.bastore, 1) := by decide +kernel
theorem d_M_set_81 : decode b_M_set 81 = .ok (.iinc 6 1, 3) := by decide +kernel
theorem d_M_set_84 : decode b_M_set 84 = .ok (.goto (-65), 3) := by decide +kernel
theorem d_M_set_87 : decode b_M_set 87 = .ok (.return_, 1) := by decide +kernel
theorem d_M_none_0 : decode b_M_none 0 = .ok (.iload_n 0, 1) := by decide +kernel
theorem d_M_none_1 : decode b_M_none 1 = .ok (.ifCond .lt 9, 3) := by decide +kernel
theorem d_M_none_4 : decode b_M_none 4 = .ok (.iload_n 0, 1) := by decide +kernel
theorem d_M_none_5 : decode b_M_none 5 = .ok (.bipush 7, 2) := by decide +kernel
theorem d_M_none_7 : decode b_M_none 7 = .ok (.if_icmp .le 7, 3) := by decide +kernel
theorem d_M_none_10 : decode b_M_none 10 = .ok (.iconst 1, 1) := by decide +kernel
theorem d_M_none_11 : decode b_M_none 11 = .ok (.goto 4, 3) := by decide +kernel
theorem d_M_none_14 : decode b_M_none 14 = .ok (.iconst 0, 1) := by decide +kernel
theorem d_M_none_15 : decode b_M_none 15 = .ok (.ireturn, 1) := by decide +kernel
theorem d_M_half_0 : decode b_M_half 0 = .ok (.aload_n 0, 1) := by decide +kernel
theorem d_M_half_1 : decode b_M_half 1 = .ok (.iload_n 1, 1) := by decide +kernel
theorem d_M_half_2 : decode b_M_half 2 = .ok (.invokestatic 30, 3) := by decide +kernel
theorem d_M_half_5 : decode b_M_half 5 = .ok (.ifCond .eq 7, 3) := by decide +kernel
theorem d_M_half_8 : decode b_M_half 8 = .ok (.iconst 1, 1) := by decide +kernel
theorem d_M_half_9 : decode b_M_half 9 = .ok (.goto 4, 3) := by decide +kernel
theorem d_M_half_12 : decode b_M_half 12 = .ok (.iconst 0, 1) := by decide +kernel
theorem d_M_half_13 : decode b_M_half 13 = .ok (.putfield 26, 3) := by decide +kernel
theorem d_M_half_16 : decode b_M_half 16 = .ok (.lconst 0, 1) := by decide +kernel
theorem d_M_half_17 : decode b_M_half 17 = .ok (.lstore_n 3, 1) := by decide +kernel
theorem d_M_half_18 : decode b_M_half 18 = .ok (.bipush 63, 2) := by decide +kernel
theorem d_M_half_20 : decode b_M_half 20 = .ok (.istore 5, 2) := by decide +kernel
theorem d_M_half_22 : decode b_M_half 22 = .ok (.iload 5, 2) := by decide +kernel
theorem d_M_half_24 : decode b_M_half 24 = .ok (.ifCond .lt 55, 3) := by decide +kernel
theorem d_M_half_27 : decode b_M_half 27 = .ok (.aload_n 0, 1) := by decide +kernel
theorem d_M_half_28 : decode b_M_half 28 = .ok (.getfield 26, 3) := by decide +kernel
theorem d_M_half_31 : decode b_M_half 31 = .ok (.ifCond .ne 48, 3) := by decide +kernel
theorem d_M_half_34 : decode b_M_half 34 = .ok (.ldc2_w 34, 3) := by decide +kernel
theorem d_M_half_37 : decode b_M_half 37 = .ok (.lload_n 3, 1) := by decide +kernel
theorem d_M_half_38 : decode b_M_half 38 = .ok (.lmul, 1) := by decide +kernel
theorem d_M_half_39 : decode b_M_half 39 = .ok (.aload_n 0, 1) := by decide +kernel
theorem d_M_half_40 : decode b_M_half 40 = .ok (.getfield 7, 3) := by decide +kernel
theorem d_M_half_43 : decode b_M_half 43 = .ok (.sipush 128, 3) := by decide +kernel
theorem d_M_half_46 : decode b_M_half 46 = .ok (.iload_n 1, 1) := by decide +kernel
theorem d_M_half_47 : decode b_M_half 47 = .ok (.imul, 1) := by decide +kernel
theorem d_M_half_48 : decode b_M_half 48 = .ok (.iload_n 2, 1) := by decide +kernel
theorem d_M_half_49 : decode b_M_half 49 = .ok (.ifCond .eq 8, 3) := by decide +kernel
theorem d_M_half_52 : decode b_M_half 52 = .ok (.bipush 64, 2) := by decide +kernel
theorem d_M_half_54 : decode b_M_half 54 = .ok (.goto 4, 3) := by decide +kernel
theorem d_M_half_57 : decode b_M_half 57 = .ok (.iconst 0, 1) := by decide +kernel
theorem d_M_half_58 : decode b_M_half 58 = .ok (.iadd, 1) := by decide +kernel
theorem d_M_half_59 : decode b_M_half 59 = .ok (.iload 5, 2) := by decide +kernel
theorem d_M_half_61 : decode b_M_half 61 = .ok (.iadd, 1) := by decide +kernel
theorem d_M_half_62 : decode b_M_half 62 = .ok (.baload, 1) := by decide +kernel
theorem d_M_half_63 : decode b_M_half 63 = .ok (.ifCond .eq 7, 3) := by decide +kernel
theorem d_M_half_66 : decode b_M_half 66 = .ok (.lconst 1, 1) := by decide +kernel
theorem d_M_half_67 : decode b_M_half 67 = .ok (.goto 4, 3) := by decide +kernel
theorem d_M_half_70 : decode b_M_half 70 = .ok (.lconst 0, 1) := by decide +kernel
theorem d_M_half_71 : decode b_M_half 71 = .ok (.ladd, 1) := by decide +kernel
theorem d_M_half_72 : decode b_M_half 72 = .ok (.lstore_n 3, 1) := by decide +kernel
theorem d_M_half_73 : decode b_M_half 73 = .ok (.iinc 5 (-1), 3) := by decide +kernel
theorem d_M_half_76 : decode b_M_half 76 = .ok (.goto (-54), 3) := by decide +kernel
theorem d_M_half_79 : decode b_M_half 79 = .ok (.lload_n 3, 1) := by decide +kernel
theorem d_M_half_80 : decode b_M_half 80 = .ok (.lreturn, 1) := by decide +kernel
theorem d_M_add_0 : decode b_M_add 0 = .ok (.aload_n 0, 1) := by decide +kernel
theorem d_M_add_1 : decode b_M_add 1 = .ok (.iload_n 1, 1) := by decide +kernel
theorem d_M_add_2 : decode b_M_add 2 = .ok (.invokestatic 30, 3) := by decide +kernel
theorem d_M_add_5 : decode b_M_add 5 = .ok (.ifCond .ne 17, 3) := by decide +kernel
theorem d_M_add_8 : decode b_M_add 8 = .ok (.iload_n 2, 1) := by decide +kernel
theorem d_M_add_9 : decode b_M_add 9 = .ok (.invokestatic 30, 3) := by decide +kernel
theorem d_M_add_12 : decode b_M_add 12 = .ok (.ifCond .ne 10, 3) := by decide +kernel
theorem d_M_add_15 : decode b_M_add 15 = .ok (.iload_n 3, 1) := by decide +kernel
theorem d_M_add_16 : decode b_M_add 16 = .ok (.invokestatic 30, 3) := by decide +kernel
theorem d_M_add_19 : decode b_M_add 19 = .ok (.ifCond .eq 7, 3) := by decide +kernel
theorem d_M_add_22 : decode b_M_add 22 = .ok (.iconst 1, 1) := by decide +kernel
theorem d_M_add_23 : decode b_M_add 23 = .ok (.goto 4, 3) := by decide +kernel
theorem d_M_add_26 : decode b_M_add 26 = .ok (.iconst 0, 1) := by decide +kernel
theorem d_M_add_27 : decode b_M_add 27 = .ok (.putfield 26, 3) := by decide +kernel
theorem d_M_add_30 : decode b_M_add 30 = .ok (.aload_n 0, 1) := by decide +kernel
theorem d_M_add_31 : decode b_M_add 31 = .ok (.getfield 26, 3) := by decide +kernel
theorem d_M_add_34 : decode b_M_add 34 = .ok (.ifCond .le 5, 3) := by decide +kernel
theorem d_M_add_37 : decode b_M_add 37 = .ok (.iconst 0, 1) := by decide +kernel
theorem d_M_add_38 : decode b_M_add 38 = .ok (.ireturn, 1) := by decide +kernel
theorem d_M_add_39 : decode b_M_add 39 = .ok (.aload_n 0, 1) := by decide +kernel
theorem d_M_add_40 : decode b_M_add 40 = .ok (.iload_n 1, 1) := by decide +kernel
theorem d_M_add_41 : decode b_M_add 41 = .ok (.bipush 8, 2) := by decide +kernel
theorem d_M_add_43 : decode b_M_add 43 = .ok (.invokevirtual 36, 3) := by decide +kernel
theorem d_M_add_46 : decode b_M_add 46 = .ok (.aload_n 0, 1) := by decide +kernel
theorem d_M_add_47 : decode b_M_add 47 = .ok (.iload_n 2, 1) := by decide +kernel
theorem d_M_add_48 : decode b_M_add 48 = .ok (.bipush 9, 2) := by decide +kernel
theorem d_M_add_50 : decode b_M_add 50 = .ok (.invokevirtual 36, 3) := by decide +kernel
theorem d_M_add_53 : decode b_M_add 53 = .ok (.aload_n 0, 1) := by decide +kernel
theorem d_M_add_54 : decode b_M_add 54 = .ok (.iconst 0, 1) := by decide +kernel
theorem d_M_add_55 : decode b_M_add 55 = .ok (.invokevirtual 40, 3) := by decide +kernel
theorem d_M_add_58 : decode b_M_add 58 = .ok (.istore 4, 2) := by decide +kernel
theorem d_M_add_60 : decode b_M_add 60 = .ok (.aload_n 0, 1) := by decide +kernel
theorem d_M_add_61 : decode b_M_add 61 = .ok (.bipush 8, 2) := by decide +kernel
theorem d_M_add_63 : decode b_M_add 63 = .ok (.iload_n 3, 1) := by decide +kernel
theorem d_M_add_64 : decode b_M_add 64 = .ok (.invokevirtual 36, 3) := by decide +kernel
theorem d_M_add_67 : decode b_M_add 67 = .ok (.iload 4, 2) := by decide +kernel
theorem d_M_add_69 : decode b_M_add 69 = .ok (.ireturn, 1) := by decide +kernel
theorem d_M_copy_0 : decode b_M_copy 0 = .ok (.iconst 0, 1) := by decide +kernel
theorem d_M_copy_1 : decode b_M_copy 1 = .ok (.istore_n 3, 1) := by decide +kernel
theorem d_M_copy_2 : decode b_M_copy 2 = .ok (.iload_n 3, 1) := by decide +kernel
theorem d_M_copy_3 : decode b_M_copy 3 = .ok (.sipush 128, 3) := by decide +kernel
theorem d_M_copy_6 : decode b_M_copy 6 = .ok (.if_icmp .ge 33, 3) := by decide +kernel
theorem d_M_copy_9 : decode b_M_copy 9 = .ok (.aload_n 0, 1) := by decide +kernel
theorem d_M_copy_10 : decode b_M_copy 10 = .ok (.getfield 7, 3) := by decide +kernel
theorem d_M_copy_13 : decode b_M_copy 13 = .ok (.sipush 128, 3) := by decide +kernel
theorem d_M_copy_16 : decode b_M_copy 16 = .ok (.iload_n 2, 1) := by decide +kernel
theorem d_M_copy_17 : decode b_M_copy 17 = .ok (.imul, 1) := by decide +kernel
theorem d_M_copy_18 : decode b_M_copy 18 = .ok (.iload_n 3, 1) := by decide +kernel
theorem d_M_copy_19 : decode b_M_copy 19 = .ok (.iadd, 1) := by decide +kernel
theorem d_M_copy_20 : decode b_M_copy 20 = .ok (.aload_n 0, 1) := by decide +kernel
theorem d_M_copy_21 : decode b_M_copy 21 = .ok (.getfield 7, 3) := by decide +kernel
theorem d_M_copy_24 : decode b_M_copy 24 = .ok (.sipush 128, 3) := by decide +kernel
theorem d_M_copy_27 : decode b_M_copy 27 = .ok (.iload_n 1, 1) := by decide +kernel
theorem d_M_copy_28 : decode b_M_copy 28 = .ok (.imul, 1) := by decide +kernel
theorem d_M_copy_29 : decode b_M_copy 29 = .ok (.iload_n 3, 1) := by decide +kernel
theorem d_M_copy_30 : decode b_M_copy 30 = .ok (.iadd, 1) := by decide +kernel
theorem d_M_copy_31 : decode b_M_copy 31 = .ok (.baload, 1) := by decide +kernel
theorem d_M_copy_32 : decode b_M_copy 32 = .ok (.bastore, 1) := by decide +kernel
theorem d_M_copy_33 : decode b_M_copy 33 = .ok (.iinc 3 1, 3) := by decide +kernel
theorem d_M_copy_36 : decode b_M_copy 36 = .ok (.goto (-34), 3) := by decide +kernel
theorem d_M_copy_39 : decode b_M_copy 39 = .ok (.return_, 1) := by decide +kernel
theorem d_M_join_0 : decode b_M_join 0 = .ok (.iconst 0, 1) := by decide +kernel
theorem d_M_join_1 : decode b_M_join 1 = .ok (.istore_n 2, 1) := by decide +kernel
theorem d_M_join_2 : decode b_M_join 2 = .ok (.iconst 0, 1) := by decide +kernel
theorem d_M_join_3 : decode b_M_join 3 = .ok (.istore_n 3, 1) := by decide +kernel
theorem d_M_join_4 : decode b_M_join 4 = .ok (.iload_n 3, 1) := by decide +kernel
theorem d_M_join_5 : decode b_M_join 5 = .ok (.sipush 128, 3) := by decide +kernel
theorem d_M_join_8 : decode b_M_join 8 = .ok (.if_icmp .ge 137, 3) := by decide +kernel
theorem d_M_join_11 : decode b_M_join 11 = .ok (.aload_n 0, 1) := by decide +kernel
theorem d_M_join_12 : decode b_M_join 12 = .ok (.getfield 7, 3) := by decide +kernel
theorem d_M_join_15 : decode b_M_join 15 = .ok (.sipush 1024, 3) := by decide +kernel
theorem d_M_join_18 : decode b_M_join 18 = .ok (.iload_n 3, 1) := by decide +kernel
theorem d_M_join_19 : decode b_M_join 19 = .ok (.iadd, 1) := by decide +kernel
theorem d_M_join_20 : decode b_M_join 20 = .ok (.baload, 1) := by decide +kernel
theorem d_M_join_21 : decode b_M_join 21 = .ok (.istore 4, 2) := by decide +kernel
theorem d_M_join_23 : decode b_M_join 23 = .ok (.aload_n 0, 1) := by decide +kernel
theorem d_M_join_24 : decode b_M_join 24 = .ok (.getfield 7, 3) := by decide +kernel
theorem d_M_join_27 : decode b_M_join 27 = .ok (.sipush 1152, 3) := by decide +kernel
theorem d_M_join_30 : decode b_M_join 30 = .ok (.iload_n 3, 1) := by decide +kernel
theorem d_M_join_31 : decode b_M_join 31 = .ok (.iadd, 1) := by decide +kernel
theorem d_M_join_32 : decode b_M_join 32 = .ok (.baload, 1) := by decide +kernel
theorem d_M_join_33 : decode b_M_join 33 = .ok (.istore 5, 2) := by decide +kernel
theorem d_M_join_35 : decode b_M_join 35 = .ok (.iload 4, 2) := by decide +kernel
theorem d_M_join_37 : decode b_M_join 37 = .ok (.iload 5, 2) := by decide +kernel
theorem d_M_join_39 : decode b_M_join 39 = .ok (.if_icmp .eq 7, 3) := by decide +kernel
theorem d_M_join_42 : decode b_M_join 42 = .ok (.iconst 1, 1) := by decide +kernel
theorem d_M_join_43 : decode b_M_join 43 = .ok (.goto 4, 3) := by decide +kernel
theorem d_M_join_46 : decode b_M_join 46 = .ok (.iconst 0, 1) := by decide +kernel
theorem d_M_join_47 : decode b_M_join 47 = .ok (.iload_n 2, 1) := by decide +kernel
theorem d_M_join_48 : decode b_M_join 48 = .ok (.if_icmp .eq 7, 3) := by decide +kernel
theorem d_M_join_51 : decode b_M_join 51 = .ok (.iconst 1, 1) := by decide +kernel
theorem d_M_join_52 : decode b_M_join 52 = .ok (.goto 4, 3) := by decide +kernel
theorem d_M_join_55 : decode b_M_join 55 = .ok (.iconst 0, 1) := by decide +kernel
theorem d_M_join_56 : decode b_M_join 56 = .ok (.istore 6, 2) := by decide +kernel
theorem d_M_join_58 : decode b_M_join 58 = .ok (.iload_n 1, 1) := by decide +kernel
theorem d_M_join_59 : decode b_M_join 59 = .ok (.ifCond .eq 34, 3) := by decide +kernel
theorem d_M_join_62 : decode b_M_join 62 = .ok (.iload 4, 2) := by decide +kernel
theorem d_M_join_64 : decode b_M_join 64 = .ok (.ifCond .ne 12, 3) := by decide +kernel
theorem d_M_join_67 : decode b_M_join 67 = .ok (.iload 5, 2) := by decide +kernel
theorem d_M_join_69 : decode b_M_join 69 = .ok (.ifCond .ne 16, 3) := by decide +kernel
theorem d_M_join_72 : decode b_M_join 72 = .ok (.iload_n 2, 1) := by decide +kernel
theorem d_M_join_73 : decode b_M_join 73 = .ok (.ifCond .ne 12, 3) := by decide +kernel
theorem d_M_join_76 : decode b_M_join 76 = .ok (.iload 5, 2) := by decide +kernel
theorem d_M_join_78 : decode b_M_join 78 = .ok (.ifCond .eq 11, 3) := by decide +kernel
theorem d_M_join_81 : decode b_M_join 81 = .ok (.iload_n 2, 1) := by decide +kernel
theorem d_M_join_82 : decode b_M_join 82 = .ok (.ifCond .eq 7, 3) := by decide +kernel
theorem d_M_join_85 : decode b_M_join 85 = .ok (.iconst 1, 1) := by decide +kernel
theorem d_M_join_86 : decode b_M_join 86 = .ok (.goto 40, 3) := by decide +kernel
theorem d_M_join_89 : decode b_M_join 89 = .ok (.iconst 0, 1) := by decide +kernel
theorem d_M_join_90 : decode b_M_join 90 = .ok (.goto 36, 3) := by decide +kernel
theorem d_M_join_93 : decode b_M_join 93 = .ok (.iload 4, 2) := by decide +kernel
theorem d_M_join_95 : decode b_M_join 95 = .ok (.ifCond .eq 8, 3) := by decide +kernel
theorem d_M_join_98 : decode b_M_join 98 = .ok (.iload 5, 2) := by decide +kernel
theorem d_M_join_100 : decode b_M_join 100 = .ok (.ifCond .ne 21, 3) := by decide +kernel
theorem d_M_join_103 : decode b_M_join 103 = .ok (.iload 4, 2) := by decide +kernel
theorem d_M_join_105 : decode b_M_join 105 = .ok (.ifCond .eq 7, 3) := by decide +kernel
theorem d_M_join_108 : decode b_M_join 108 = .ok (.iload_n 2, 1) := by decide +kernel
theorem d_M_join_109 : decode b_M_join 109 = .ok (.ifCond .ne 12, 3) := by decide +kernel
theorem d_M_join_112 : decode b_M_join 112 = .ok (.iload 5, 2) := by decide +kernel
theorem d_M_join_114 : decode b_M_join 114 = .ok (.ifCond .eq 11, 3) := by decide +kernel
theorem d_M_join_117 : decode b_M_join 117 = .ok (.iload_n 2, 1) := by decide +kernel
theorem d_M_join_118 : decode b_M_join 118 = .ok (.ifCond .eq 7, 3) := by decide +kernel
theorem d_M_join_121 : decode b_M_join 121 = .ok (.iconst 1, 1) := by decide +kernel
theorem d_M_join_122 : decode b_M_join 122 = .ok (.goto 4, 3) := by decide +kernel
theorem d_M_join_125 : decode b_M_join 125 = .ok (.iconst 0, 1) := by decide +kernel
theorem d_M_join_126 : decode b_M_join 126 = .ok (.istore_n 2, 1) := by decide +kernel
theorem d_M_join_127 : decode b_M_join 127 = .ok (.aload_n 0, 1) := by decide +kernel
theorem d_M_join_128 : decode b_M_join 128 = .ok (.getfield 7, 3) := by decide +kernel
theorem d_M_join_131 : decode b_M_join 131 = .ok (.sipush 1024, 3) := by decide +kernel
theorem d_M_join_134 : decode b_M_join 134 = .ok (.iload_n 3, 1) := by decide +kernel
theorem d_M_join_135 : decode b_M_join 135 = .ok (.iadd, 1) := by decide +kernel
theorem d_M_join_136 : decode b_M_join 136 = .ok (.iload 6, 2) := by decide +kernel
theorem d_M_join_138 : decode b_M_join 138 = .ok (.bastore, 1) := by decide +kernel
theorem d_M_join_139 : decode b_M_join 139 = .ok (.iinc 3 1, 3) := by decide +kernel
theorem d_M_join_142 : decode b_M_join 142 = .ok (.goto (-138), 3) := by decide +kernel
theorem d_M_join_145 : decode b_M_join 145 = .ok (.iload_n 2, 1) := by decide +kernel
theorem d_M_join_146 : decode b_M_join 146 = .ok (.ireturn, 1) := by decide +kernel
theorem d_M_subtract_0 : decode b_M_subtract 0 = .ok (.aload_n 0, 1) := by decide +kernel
theorem d_M_subtract_1 : decode b_M_subtract 1 = .ok (.iload_n 1, 1) := by decide +kernel
theorem d_M_subtract_2 : decode b_M_subtract 2 = .ok (.invokestatic 30, 3) := by decide +kernel
theorem d_M_subtract_5 : decode b_M_subtract 5 = .ok (.ifCond .ne 17, 3) := by decide +kernel
theorem d_M_subtract_8 : decode b_M_subtract 8 = .ok (.iload_n 2, 1) := by decide +kernel
theorem d_M_subtract_9 : decode b_M_subtract 9 = .ok (.invokestatic 30, 3) := by decide +kernel
theorem d_M_subtract_12 : decode b_M_subtract 12 = .ok (.ifCond .ne 10, 3) := by decide +kernel
theorem d_M_subtract_15 : decode b_M_subtract 15 = .ok (.iload_n 3, 1) := by decide +kernel
theorem d_M_subtract_16 : decode b_M_subtract 16 = .ok (.invokestatic 30, 3) := by decide +kernel
theorem d_M_subtract_19 : decode b_M_subtract 19 = .ok (.ifCond .eq 7, 3) := by decide +kernel
theorem d_M_subtract_22 : decode b_M_subtract 22 = .ok (.iconst 1, 1) := by decide +kernel
theorem d_M_subtract_23 : decode b_M_subtract 23 = .ok (.goto 4, 3) := by decide +kernel
theorem d_M_subtract_26 : decode b_M_subtract 26 = .ok (.iconst 0, 1) := by decide +kernel
theorem d_M_subtract_27 : decode b_M_subtract 27 = .ok (.putfield 26, 3) := by decide +kernel
theorem d_M_subtract_30 : decode b_M_subtract 30 = .ok (.aload_n 0, 1) := by decide +kernel
theorem d_M_subtract_31 : decode b_M_subtract 31 = .ok (.getfield 26, 3) := by decide +kernel
theorem d_M_subtract_34 : decode b_M_subtract 34 = .ok (.ifCond .le 5, 3) := by decide +kernel
theorem d_M_subtract_37 : decode b_M_subtract 37 = .ok (.iconst 0, 1) := by decide +kernel
theorem d_M_subtract_38 : decode b_M_subtract 38 = .ok (.ireturn, 1) := by decide +kernel
theorem d_M_subtract_39 : decode b_M_subtract 39 = .ok (.aload_n 0, 1) := by decide +kernel
theorem d_M_subtract_40 : decode b_M_subtract 40 = .ok (.iload_n 1, 1) := by decide +kernel
theorem d_M_subtract_41 : decode b_M_subtract 41 = .ok (.bipush 8, 2) := by decide +kernel
theorem d_M_subtract_43 : decode b_M_subtract 43 = .ok (.invokevirtual 36, 3) := by decide +kernel
theorem d_M_subtract_46 : decode b_M_subtract 46 = .ok (.aload_n 0, 1) := by decide +kernel
theorem d_M_subtract_47 : decode b_M_subtract 47 = .ok (.iload_n 2, 1) := by decide +kernel
theorem d_M_subtract_48 : decode b_M_subtract 48 = .ok (.bipush 9, 2) := by decide +kernel
theorem d_M_subtract_50 : decode b_M_subtract 50 = .ok (.invokevirtual 36, 3) := by decide +kernel
theorem d_M_subtract_53 : decode b_M_subtract 53 = .ok (.aload_n 0, 1) := by decide +kernel
theorem d_M_subtract_54 : decode b_M_subtract 54 = .ok (.iconst 1, 1) := by decide +kernel
theorem d_M_subtract_55 : decode b_M_subtract 55 = .ok (.invokevirtual 40, 3) := by decide +kernel
theorem d_M_subtract_58 : decode b_M_subtract 58 = .ok (.istore 4, 2) := by decide +kernel
theorem d_M_subtract_60 : decode b_M_subtract 60 = .ok (.aload_n 0, 1) := by decide +kernel
theorem d_M_subtract_61 : decode b_M_subtract 61 = .ok (.bipush 8, 2) := by decide +kernel
theorem d_M_subtract_63 : decode b_M_subtract 63 = .ok (.iload_n 3, 1) := by decide +kernel
theorem d_M_subtract_64 : decode b_M_subtract 64 = .ok (.invokevirtual 36, 3) := by decide +kernel
theorem d_M_subtract_67 : decode b_M_subtract 67 = .ok (.iload 4, 2) := by decide +kernel
theorem d_M_subtract_69 : decode b_M_subtract 69 = .ok (.ireturn, 1) := by decide +kernel
theorem d_M_multiply_0 : decode b_M_multiply 0 = .ok (.aload_n 0, 1) := by decide +kernel
theorem d_M_multiply_1 : decode b_M_multiply 1 = .ok (.iload_n 1, 1) := by decide +kernel
theorem d_M_multiply_2 : decode b_M_multiply 2 = .ok (.invokestatic 30, 3) := by decide +kernel
theorem d_M_multiply_5 : decode b_M_multiply 5 = .ok (.ifCond .ne 25, 3) := by decide +kernel
theorem d_M_multiply_8 : decode b_M_multiply 8 = .ok (.iload_n 2, 1) := by decide +kernel
theorem d_M_multiply_9 : decode b_M_multiply 9 = .ok (.invokestatic 30, 3) := by decide +kernel
theorem d_M_multiply_12 : decode b_M_multiply 12 = .ok (.ifCond .ne 18, 3) := by decide +kernel
theorem d_M_multiply_15 : decode b_M_multiply 15 = .ok (.iload_n 3, 1) := by decide +kernel
theorem d_M_multiply_16 : decode b_M_multiply 16 = .ok (.invokestatic 30, 3) := by decide +kernel
theorem d_M_multiply_19 : decode b_M_multiply 19 = .ok (.ifCond .ne 11, 3) := by decide +kernel
theorem d_M_multiply_22 : decode b_M_multiply 22 = .ok (.iload 4, 2) := by decide +kernel
theorem d_M_multiply_24 : decode b_M_multiply 24 = .ok (.invokestatic 30, 3) := by decide +kernel
theorem d_M_multiply_27 : decode b_M_multiply 27 = .ok (.ifCond .eq 7, 3) := by decide +kernel
theorem d_M_multiply_30 : decode b_M_multiply 30 = .ok (.iconst 1, 1) := by decide +kernel
theorem d_M_multiply_31 : decode b_M_multiply 31 = .ok (.goto 14, 3) := by decide +kernel
theorem d_M_multiply_34 : decode b_M_multiply 34 = .ok (.iload_n 3, 1) := by decide +kernel
theorem d_M_multiply_35 : decode b_M_multiply 35 = .ok (.iload 4, 2) := by decide +kernel
theorem d_M_multiply_37 : decode b_M_multiply 37 = .ok (.if_icmp .ne 7, 3) := by decide +kernel
theorem d_M_multiply_40 : decode b_M_multiply 40 = .ok (.iconst 2, 1) := by decide +kernel
theorem d_M_multiply_41 : decode b_M_multiply 41 = .ok (.goto 4, 3) := by decide +kernel
theorem d_M_multiply_44 : decode b_M_multiply 44 = .ok (.iconst 0, 1) := by decide +kernel
theorem d_M_multiply_45 : decode b_M_multiply 45 = .ok (.putfield 26, 3) := by decide +kernel
theorem d_M_multiply_48 : decode b_M_multiply 48 = .ok (.aload_n 0, 1) := by decide +kernel
theorem d_M_multiply_49 : decode b_M_multiply 49 = .ok (.getfield 26, 3) := by decide +kernel
theorem d_M_multiply_52 : decode b_M_multiply 52 = .ok (.ifCond .le 4, 3) := by decide +kernel
theorem d_M_multiply_55 : decode b_M_multiply 55 = .ok (.return_, 1) := by decide +kernel
theorem d_M_multiply_56 : decode b_M_multiply 56 = .ok (.aload_n 0, 1) := by decide +kernel
theorem d_M_multiply_57 : decode b_M_multiply 57 = .ok (.iload_n 1, 1) := by decide +kernel
theorem d_M_multiply_58 : decode b_M_multiply 58 = .ok (.iload_n 2, 1) := by decide +kernel
theorem d_M_multiply_59 : decode b_M_multiply 59 = .ok (.invokevirtual 44, 3) := by decide +kernel
theorem d_M_multiply_62 : decode b_M_multiply 62 = .ok (.aload_n 0, 1) := by decide +kernel
theorem d_M_multiply_63 : decode b_M_multiply 63 = .ok (.aload_n 0, 1) := by decide +kernel
theorem d_M_multiply_64 : decode b_M_multiply 64 = .ok (.getfield 13, 3) := by decide +kernel
theorem d_M_multiply_67 : decode b_M_multiply 67 = .ok (.sipush 128, 3) := by decide +kernel
theorem d_M_multiply_70 : decode b_M_multiply 70 = .ok (.iload_n 3, 1) := by decide +kernel
theorem d_M_multiply_71 : decode b_M_multiply 71 = .ok (.invokevirtual 47, 3) := by decide +kernel
theorem d_M_multiply_74 : decode b_M_multiply 74 = .ok (.aload_n 0, 1) := by decide +kernel
theorem d_M_multiply_75 : decode b_M_multiply 75 = .ok (.aload_n 0, 1) := by decide +kernel
theorem d_M_multiply_76 : decode b_M_multiply 76 = .ok (.getfield 13, 3) := by decide +kernel
theorem d_M_multiply_79 : decode b_M_multiply 79 = .ok (.iconst 0, 1) := by decide +kernel
theorem d_M_multiply_80 : decode b_M_multiply 80 = .ok (.iload 4, 2) := by decide +kernel
theorem d_M_multiply_82 : decode b_M_multiply 82 = .ok (.invokevirtual 47, 3) := by decide +kernel
theorem d_M_multiply_85 : decode b_M_multiply 85 = .ok (.return_, 1) := by decide +kernel
theorem d_M_findProduct_0 : decode b_M_findProduct 0 = .ok (.iconst 0, 1) := by decide +kernel
theorem d_M_findProduct_1 : decode b_M_findProduct 1 = .ok (.istore_n 3, 1) := by decide +kernel
theorem d_M_findProduct_2 : decode b_M_findProduct 2 = .ok (.iload_n 3, 1) := by decide +kernel
theorem d_M_findProduct_3 : decode b_M_findProduct 3 = .ok (.sipush 256, 3) := by decide +kernel
theorem d_M_findProduct_6 : decode b_M_findProduct 6 = .ok (.if_icmp .ge 16, 3) := by decide +kernel
theorem d_M_findProduct_9 : decode b_M_findProduct 9 = .ok (.aload_n 0, 1) := by decide +kernel
theorem d_M_findProduct_10 : decode b_M_findProduct 10 = .ok (.getfield 13, 3) := by decide +kernel
theorem d_M_findProduct_13 : decode b_M_findProduct 13 = .ok (.iload_n 3, 1) := by decide +kernel
theorem d_M_findProduct_14 : decode b_M_findProduct 14 = .ok (.iconst 0, 1) := by decide +kernel
theorem d_M_findProduct_15 : decode b_M_findProduct 15 = .ok (.bastore, 1) := by decide +kernel
theorem d_M_findProduct_16 : decode b_M_findProduct 16 = .ok (.iinc 3 1, 3) := by decide +kernel
theorem d_M_findProduct_19 : decode b_M_findProduct 19 = .ok (.goto (-17), 3) := by decide +kernel
theorem d_M_findProduct_22 : decode b_M_findProduct 22 = .ok (.iconst 0, 1) := by decide +kernel
theorem d_M_findProduct_23 : decode b_M_findProduct 23 = .ok (.istore_n 3, 1) := by decide +kernel
theorem d_M_findProduct_24 : decode b_M_findProduct 24 = .ok (.iload_n 3, 1) := by decide +kernel
theorem d_M_findProduct_25 : decode b_M_findProduct 25 = .ok (.sipush 128, 3) := by decide +kernel
theorem d_M_findProduct_28 : decode b_M_findProduct 28 = .ok (.if_icmp .ge 156, 3) := by decide +kernel
theorem d_M_findProduct_31 : decode b_M_findProduct 31 = .ok (.aload_n 0, 1) := by decide +kernel
theorem d_M_findProduct_32 : decode b_M_findProduct 32 = .ok (.getfield 7, 3) := by decide +kernel
theorem d_M_findProduct_35 : decode b_M_findProduct 35 = .ok (.sipush 128, 3) := by decide +kernel
theorem d_M_findProduct_38 : decode b_M_findProduct 38 = .ok (.iload_n 2, 1) := by decide +kernel
theorem d_M_findProduct_39 : decode b_M_findProduct 39 = .ok (.imul, 1) := by decide +kernel
theorem d_M_findProduct_40 : decode b_M_findProduct 40 = .ok (.iload_n 3, 1) := by decide +kernel
theorem d_M_findProduct_41 : decode b_M_findProduct 41 = .ok (.iadd, 1) := by decide +kernel
theorem d_M_findProduct_42 : decode b_M_findProduct 42 = .ok (.baload, 1) := by decide +kernel
theorem d_M_findProduct_43 : decode b_M_findProduct 43 = .ok (.ifCond .eq 135, 3) := by decide +kernel
theorem d_M_findProduct_46 : decode b_M_findProduct 46 = .ok (.iconst 0, 1) := by decide +kernel
theorem d_M_findProduct_47 : decode b_M_findProduct 47 = .ok (.istore 4, 2) := by decide +kernel
theorem d_M_findProduct_49 : decode b_M_findProduct 49 = .ok (.iconst 0, 1) := by decide +kernel
theorem d_M_findProduct_50 : decode b_M_findProduct 50 = .ok (.istore 5, 2) := by decide +kernel
theorem d_M_findProduct_52 : decode b_M_findProduct 52 = .ok (.iload_n 3, 1) := by decide +kernel
theorem d_M_findProduct_53 : decode b_M_findProduct 53 = .ok (.iload 5, 2) := by decide +kernel
theorem d_M_findProduct_55 : decode b_M_findProduct 55 = .ok (.iadd, 1) := by decide +kernel
theorem d_M_findProduct_56 : decode b_M_findProduct 56 = .ok (.sipush 256, 3) := by decide +kernel
theorem d_M_findProduct_59 : decode b_M_findProduct 59 = .ok (.if_icmp .ge 119, 3) := by decide +kernel
theorem d_M_findProduct_62 : decode b_M_findProduct 62 = .ok (.aload_n 0, 1) := by decide +kernel
theorem d_M_findProduct_63 : decode b_M_findProduct 63 = .ok (.getfield 13, 3) := by decide +kernel
theorem d_M_findProduct_66 : decode b_M_findProduct 66 = .ok (.iload_n 3, 1) := by decide +kernel
theorem d_M_findProduct_67 : decode b_M_findProduct 67 = .ok (.iload 5, 2) := by decide +kernel
theorem d_M_findProduct_69 : decode b_M_findProduct 69 = .ok (.iadd, 1) := by decide +kernel
theorem d_M_findProduct_70 : decode b_M_findProduct 70 = .ok (.baload, 1) := by decide +kernel
theorem d_M_findProduct_71 : decode b_M_findProduct 71 = .ok (.istore 6, 2) := by decide +kernel
theorem d_M_findProduct_73 : decode b_M_findProduct 73 = .ok (.iload 5, 2) := by decide +kernel
theorem d_M_findProduct_75 : decode b_M_findProduct 75 = .ok (.sipush 128, 3) := by decide +kernel
theorem d_M_findProduct_78 : decode b_M_findProduct 78 = .ok (.if_icmp .ge 23, 3) := by decide +kernel
theorem d_M_findProduct_81 : decode b_M_findProduct 81 = .ok (.aload_n 0, 1) := by decide +kernel
theorem d_M_findProduct_82 : decode b_M_findProduct 82 = .ok (.getfield 7, 3) := by decide +kernel
theorem d_M_findProduct_85 : decode b_M_findProduct 85 = .ok (.sipush 128, 3) := by decide +kernel
theorem d_M_findProduct_88 : decode b_M_findProduct 88 = .ok (.iload_n 1, 1) := by decide +kernel
theorem d_M_findProduct_89 : decode b_M_findProduct 89 = .ok (.imul, 1) := by decide +kernel
theorem d_M_findProduct_90 : decode b_M_findProduct 90 = .ok (.iload 5, 2) := by decide +kernel
theorem d_M_findProduct_92 : decode b_M_findProduct 92 = .ok (.iadd, 1) := by decide +kernel
theorem d_M_findProduct_93 : decode b_M_findProduct 93 = .ok (.baload, 1) := by decide +kernel
theorem d_M_findProduct_94 : decode b_M_findProduct 94 = .ok (.ifCond .eq 7, 3) := by decide +kernel
theorem d_M_findProduct_97 : decode b_M_findProduct 97 = .ok (.iconst 1, 1) := by decide +kernel
theorem d_M_findProduct_98 : decode b_M_findProduct 98 = .ok (.goto 4, 3) := by decide +kernel
theorem d_M_findProduct_101 : decode b_M_findProduct 101 = .ok (.iconst 0, 1) := by decide +kernel
theorem d_M_findProduct_102 : decode b_M_findProduct 102 = .ok (.istore 7, 2) := by decide +kernel
theorem d_M_findProduct_104 : decode b_M_findProduct 104 = .ok (.aload_n 0, 1) := by decide +kernel
theorem d_M_findProduct_105 : decode b_M_findProduct 105 = .ok (.getfield 13, 3) := by decide +kernel
theorem d_M_findProduct_108 : decode b_M_findProduct 108 = .ok (.iload_n 3, 1) := by decide +kernel
theorem d_M_findProduct_109 : decode b_M_findProduct 109 = .ok (.iload 5, 2) := by decide +kernel
theorem d_M_findProduct_111 : decode b_M_findProduct 111 = .ok (.iadd, 1) := by decide +kernel
theorem d_M_findProduct_112 : decode b_M_findProduct 112 = .ok (.iload 6, 2) := by decide +kernel
theorem d_M_findProduct_114 : decode b_M_findProduct 114 = .ok (.iload 7, 2) := by decide +kernel
theorem d_M_findProduct_116 : decode b_M_findProduct 116 = .ok (.if_icmp .eq 7, 3) := by decide +kernel
theorem d_M_findProduct_119 : decode b_M_findProduct 119 = .ok (.iconst 1, 1) := by decide +kernel
theorem d_M_findProduct_120 : decode b_M_findProduct 120 = .ok (.goto 4, 3) := by decide +kernel
theorem d_M_findProduct_123 : decode b_M_findProduct 123 = .ok (.iconst 0, 1) := by decide +kernel
theorem d_M_findProduct_124 : decode b_M_findProduct 124 = .ok (.iload 4, 2) := by decide +kernel
theorem d_M_findProduct_126 : decode b_M_findProduct 126 = .ok (.if_icmp .eq 7, 3) := by decide +kernel
theorem d_M_findProduct_129 : decode b_M_findProduct 129 = .ok (.iconst 1, 1) := by decide +kernel
theorem d_M_findProduct_130 : decode b_M_findProduct 130 = .ok (.goto 4, 3) := by decide +kernel
theorem d_M_findProduct_133 : decode b_M_findProduct 133 = .ok (.iconst 0, 1) := by decide +kernel
theorem d_M_findProduct_134 : decode b_M_findProduct 134 = .ok (.bastore, 1) := by decide +kernel
theorem d_M_findProduct_135 : decode b_M_findProduct 135 = .ok (.iload 6, 2) := by decide +kernel
theorem d_M_findProduct_137 : decode b_M_findProduct 137 = .ok (.ifCond .eq 8, 3) := by decide +kernel
theorem d_M_findProduct_140 : decode b_M_findProduct 140 = .ok (.iload 7, 2) := by decide +kernel
theorem d_M_findProduct_142 : decode b_M_findProduct 142 = .ok (.ifCond .ne 23, 3) := by decide +kernel
theorem d_M_findProduct_145 : decode b_M_findProduct 145 = .ok (.iload 6, 2) := by decide +kernel
theorem d_M_findProduct_147 : decode b_M_findProduct 147 = .ok (.ifCond .eq 8, 3) := by decide +kernel
theorem d_M_findProduct_150 : decode b_M_findProduct 150 = .ok (.iload 4, 2) := by decide +kernel
theorem d_M_findProduct_152 : decode b_M_findProduct 152 = .ok (.ifCond .ne 13, 3) := by decide +kernel
theorem d_M_findProduct_155 : decode b_M_findProduct 155 = .ok (.iload 7, 2) := by decide +kernel
theorem d_M_findProduct_157 : decode b_M_findProduct 157 = .ok (.ifCond .eq 12, 3) := by decide +kernel
theorem d_M_findProduct_160 : decode b_M_findProduct 160 = .ok (.iload 4, 2) := by decide +kernel
theorem d_M_findProduct_162 : decode b_M_findProduct 162 = .ok (.ifCond .eq 7, 3) := by decide +kernel
theorem d_M_findProduct_165 : decode b_M_findProduct 165 = .ok (.iconst 1, 1) := by decide +kernel
theorem d_M_findProduct_166 : decode b_M_findProduct 166 = .ok (.goto 4, 3) := by decide +kernel
theorem d_M_findProduct_169 : decode b_M_findProduct 169 = .ok (.iconst 0, 1) := by decide +kernel
theorem d_M_findProduct_170 : decode b_M_findProduct 170 = .ok (.istore 4, 2) := by decide +kernel
theorem d_M_findProduct_172 : decode b_M_findProduct 172 = .ok (.iinc 5 1, 3) := by decide +kernel
theorem d_M_findProduct_175 : decode b_M_findProduct 175 = .ok (.goto (-123), 3) := by decide +kernel
theorem d_M_findProduct_178 : decode b_M_findProduct 178 = .ok (.iinc 3 1, 3) := by decide +kernel
theorem d_M_findProduct_181 : decode b_M_findProduct 181 = .ok (.goto (-157), 3) := by decide +kernel
theorem d_M_findProduct_184 : decode b_M_findProduct 184 = .ok (.return_, 1) := by decide +kernel
theorem d_M_take_0 : decode b_M_take 0 = .ok (.iconst 0, 1) := by decide +kernel
theorem d_M_take_1 : decode b_M_take 1 = .ok (.istore 4, 2) := by decide +kernel
theorem d_M_take_3 : decode b_M_take 3 = .ok (.iload 4, 2) := by decide +kernel
theorem d_M_take_5 : decode b_M_take 5 = .ok (.sipush 128, 3) := by decide +kernel
theorem d_M_take_8 : decode b_M_take 8 = .ok (.if_icmp .ge 28, 3) := by decide +kernel
theorem d_M_take_11 : decode b_M_take 11 = .ok (.aload_n 0, 1) := by decide +kernel
theorem d_M_take_12 : decode b_M_take 12 = .ok (.getfield 7, 3) := by decide +kernel
theorem d_M_take_15 : decode b_M_take 15 = .ok (.sipush 128, 3) := by decide +kernel
theorem d_M_take_18 : decode b_M_take 18 = .ok (.iload_n 3, 1) := by decide +kernel
theorem d_M_take_19 : decode b_M_take 19 = .ok (.imul, 1) := by decide +kernel
theorem d_M_take_20 : decode b_M_take 20 = .ok (.iload 4, 2) := by decide +kernel
theorem d_M_take_22 : decode b_M_take 22 = .ok (.iadd, 1) := by decide +kernel
theorem d_M_take_23 : decode b_M_take 23 = .ok (.aload_n 1, 1) := by decide +kernel
theorem d_M_take_24 : decode b_M_take 24 = .ok (.iload_n 2, 1) := by decide +kernel
theorem d_M_take_25 : decode b_M_take 25 = .ok (.iload 4, 2) := by decide +kernel
theorem d_M_take_27 : decode b_M_take 27 = .ok (.iadd, 1) := by decide +kernel
theorem d_M_take_28 : decode b_M_take 28 = .ok (.baload, 1) := by decide +kernel
theorem d_M_take_29 : decode b_M_take 29 = .ok (.bastore, 1) := by decide +kernel
theorem d_M_take_30 : decode b_M_take 30 = .ok (.iinc 4 1, 3) := by decide +kernel
theorem d_M_take_33 : decode b_M_take 33 = .ok (.goto (-30), 3) := by decide +kernel
theorem d_M_take_36 : decode b_M_take 36 = .ok (.return_, 1) := by decide +kernel
theorem d_M_divide_0 : decode b_M_divide 0 = .ok (.aload_n 0, 1) := by decide +kernel
theorem d_M_divide_1 : decode b_M_divide 1 = .ok (.iload_n 1, 1) := by decide +kernel
theorem d_M_divide_2 : decode b_M_divide 2 = .ok (.invokestatic 30, 3) := by decide +kernel
theorem d_M_divide_5 : decode b_M_divide 5 = .ok (.ifCond .ne 25, 3) := by decide +kernel
theorem d_M_divide_8 : decode b_M_divide 8 = .ok (.iload_n 2, 1) := by decide +kernel
theorem d_M_divide_9 : decode b_M_divide 9 = .ok (.invokestatic 30, 3) := by decide +kernel
theorem d_M_divide_12 : decode b_M_divide 12 = .ok (.ifCond .ne 18, 3) := by decide +kernel
theorem d_M_divide_15 : decode b_M_divide 15 = .ok (.iload_n 3, 1) := by decide +kernel
theorem d_M_divide_16 : decode b_M_divide 16 = .ok (.invokestatic 30, 3) := by decide +kernel
theorem d_M_divide_19 : decode b_M_divide 19 = .ok (.ifCond .ne 11, 3) := by decide +kernel
theorem d_M_divide_22 : decode b_M_divide 22 = .ok (.iload 4, 2) := by decide +kernel
theorem d_M_divide_24 : decode b_M_divide 24 = .ok (.invokestatic 30, 3) := by decide +kernel
theorem d_M_divide_27 : decode b_M_divide 27 = .ok (.ifCond .eq 7, 3) := by decide +kernel
theorem d_M_divide_30 : decode b_M_divide 30 = .ok (.iconst 1, 1) := by decide +kernel
theorem d_M_divide_31 : decode b_M_divide 31 = .ok (.goto 14, 3) := by decide +kernel
theorem d_M_divide_34 : decode b_M_divide 34 = .ok (.iload_n 3, 1) := by decide +kernel
theorem d_M_divide_35 : decode b_M_divide 35 = .ok (.iload 4, 2) := by decide +kernel
theorem d_M_divide_37 : decode b_M_divide 37 = .ok (.if_icmp .ne 7, 3) := by decide +kernel
theorem d_M_divide_40 : decode b_M_divide 40 = .ok (.iconst 2, 1) := by decide +kernel
theorem d_M_divide_41 : decode b_M_divide 41 = .ok (.goto 4, 3) := by decide +kernel
theorem d_M_divide_44 : decode b_M_divide 44 = .ok (.iconst 0, 1) := by decide +kernel
theorem d_M_divide_45 : decode b_M_divide 45 = .ok (.putfield 26, 3) := by decide +kernel
theorem d_M_divide_48 : decode b_M_divide 48 = .ok (.aload_n 0, 1) := by decide +kernel
theorem d_M_divide_49 : decode b_M_divide 49 = .ok (.getfield 26, 3) := by decide +kernel
theorem d_M_divide_52 : decode b_M_divide 52 = .ok (.ifCond .le 4, 3) := by decide +kernel
theorem d_M_divide_55 : decode b_M_divide 55 = .ok (.return_, 1) := by decide +kernel
theorem d_M_divide_56 : decode b_M_divide 56 = .ok (.iconst 1, 1) := by decide +kernel
theorem d_M_divide_57 : decode b_M_divide 57 = .ok (.istore 5, 2) := by decide +kernel
theorem d_M_divide_59 : decode b_M_divide 59 = .ok (.iconst 0, 1) := by decide +kernel
theorem d_M_divide_60 : decode b_M_divide 60 = .ok (.istore 6, 2) := by decide +kernel
theorem d_M_divide_62 : decode b_M_divide 62 = .ok (.iload 6, 2) := by decide +kernel
theorem d_M_divide_64 : decode b_M_divide 64 = .ok (.sipush 128, 3) := by decide +kernel
theorem d_M_divide_67 : decode b_M_divide 67 = .ok (.if_icmp .ge 37, 3) := by decide +kernel
theorem d_M_divide_70 : decode b_M_divide 70 = .ok (.iload 5, 2) := by decide +kernel
theorem d_M_divide_72 : decode b_M_divide 72 = .ok (.ifCond .eq 23, 3) := by decide +kernel
theorem d_M_divide_75 : decode b_M_divide 75 = .ok (.aload_n 0, 1) := by decide +kernel
theorem d_M_divide_76 : decode b_M_divide 76 = .ok (.getfield 7, 3) := by decide +kernel
theorem d_M_divide_79 : decode b_M_divide 79 = .ok (.sipush 128, 3) := by decide +kernel
theorem d_M_divide_82 : decode b_M_divide 82 = .ok (.iload_n 2, 1) := by decide +kernel
theorem d_M_divide_83 : decode b_M_divide 83 = .ok (.imul, 1) := by decide +kernel
theorem d_M_divide_84 : decode b_M_divide 84 = .ok (.iload 6, 2) := by decide +kernel
theorem d_M_divide_86 : decode b_M_divide 86 = .ok (.iadd, 1) := by decide +kernel
theorem d_M_divide_87 : decode b_M_divide 87 = .ok (.baload, 1) := by decide +kernel
theorem d_M_divide_88 : decode b_M_divide 88 = .ok (.ifCond .ne 7, 3) := by decide +kernel
theorem d_M_divide_91 : decode b_M_divide 91 = .ok (.iconst 1, 1) := by decide +kernel
theorem d_M_divide_92 : decode b_M_divide 92 = .ok (.goto 4, 3) := by decide +kernel
theorem d_M_divide_95 : decode b_M_divide 95 = .ok (.iconst 0, 1) := by decide +kernel
theorem d_M_divide_96 : decode b_M_divide 96 = .ok (.istore 5, 2) := by decide +kernel
theorem d_M_divide_98 : decode b_M_divide 98 = .ok (.iinc 6 1, 3) := by decide +kernel
theorem d_M_divide_101 : decode b_M_divide 101 = .ok (.goto (-39), 3) := by decide +kernel
theorem d_M_divide_104 : decode b_M_divide 104 = .ok (.aload_n 0, 1) := by decide +kernel
theorem d_M_divide_105 : decode b_M_divide 105 = .ok (.iload 5, 2) := by decide +kernel
theorem d_M_divide_107 : decode b_M_divide 107 = .ok (.ifCond .eq 7, 3) := by decide +kernel
theorem d_M_divide_110 : decode b_M_divide 110 = .ok (.iconst 3, 1) := by decide +kernel
theorem d_M_divide_111 : decode b_M_divide 111 = .ok (.goto 4, 3) := by decide +kernel
theorem d_M_divide_114 : decode b_M_divide 114 = .ok (.iconst 0, 1) := by decide +kernel
theorem d_M_divide_115 : decode b_M_divide 115 = .ok (.putfield 26, 3) := by decide +kernel
theorem d_M_divide_118 : decode b_M_divide 118 = .ok (.aload_n 0, 1) := by decide +kernel
theorem d_M_divide_119 : decode b_M_divide 119 = .ok (.getfield 26, 3) := by decide +kernel
theorem d_M_divide_122 : decode b_M_divide 122 = .ok (.ifCond .le 4, 3) := by decide +kernel
theorem d_M_divide_125 : decode b_M_divide 125 = .ok (.return_, 1) := by decide +kernel
theorem d_M_divide_126 : decode b_M_divide 126 = .ok (.aload_n 0, 1) := by decide +kernel
theorem d_M_divide_127 : decode b_M_divide 127 = .ok (.invokevirtual 55, 3) := by decide +kernel
theorem d_M_divide_130 : decode b_M_divide 130 = .ok (.bipush 127, 2) := by decide +kernel
theorem d_M_divide_132 : decode b_M_divide 132 = .ok (.istore 6, 2) := by decide +kernel
theorem d_M_divide_134 : decode b_M_divide 134 = .ok (.iload 6, 2) := by decide +kernel
theorem d_M_divide_136 : decode b_M_divide 136 = .ok (.ifCond .lt 38, 3) := by decide +kernel
theorem d_M_divide_139 : decode b_M_divide 139 = .ok (.aload_n 0, 1) := by decide +kernel
theorem d_M_divide_140 : decode b_M_divide 140 = .ok (.aload_n 0, 1) := by decide +kernel
theorem d_M_divide_141 : decode b_M_divide 141 = .ok (.getfield 7, 3) := by decide +kernel
theorem d_M_divide_144 : decode b_M_divide 144 = .ok (.sipush 128, 3) := by decide +kernel
theorem d_M_divide_147 : decode b_M_divide 147 = .ok (.iload_n 1, 1) := by decide +kernel
theorem d_M_divide_148 : decode b_M_divide 148 = .ok (.imul, 1) := by decide +kernel
theorem d_M_divide_149 : decode b_M_divide 149 = .ok (.iload 6, 2) := by decide +kernel
theorem d_M_divide_151 : decode b_M_divide 151 = .ok (.iadd, 1) := by decide +kernel
theorem d_M_divide_152 : decode b_M_divide 152 = .ok (.baload, 1) := by decide +kernel
theorem d_M_divide_153 : decode b_M_divide 153 = .ok (.invokevirtual 58, 3) := by decide +kernel
theorem d_M_divide_156 : decode b_M_divide 156 = .ok (.aload_n 0, 1) := by decide +kernel
theorem d_M_divide_157 : decode b_M_divide 157 = .ok (.getfield 16, 3) := by decide +kernel
theorem d_M_divide_160 : decode b_M_divide 160 = .ok (.iload 6, 2) := by decide +kernel
theorem d_M_divide_162 : decode b_M_divide 162 = .ok (.aload_n 0, 1) := by decide +kernel
theorem d_M_divide_163 : decode b_M_divide 163 = .ok (.iload_n 2, 1) := by decide +kernel
theorem d_M_divide_164 : decode b_M_divide 164 = .ok (.invokevirtual 62, 3) := by decide +kernel
theorem d_M_divide_167 : decode b_M_divide 167 = .ok (.bastore, 1) := by decide +kernel
theorem d_M_divide_168 : decode b_M_divide 168 = .ok (.iinc 6 (-1), 3) := by decide +kernel
theorem d_M_divide_171 : decode b_M_divide 171 = .ok (.goto (-37), 3) := by decide +kernel
theorem d_M_divide_174 : decode b_M_divide 174 = .ok (.aload_n 0, 1) := by decide +kernel
theorem d_M_divide_175 : decode b_M_divide 175 = .ok (.aload_n 0, 1) := by decide +kernel
theorem d_M_divide_176 : decode b_M_divide 176 = .ok (.getfield 16, 3) := by decide +kernel
theorem d_M_divide_179 : decode b_M_divide 179 = .ok (.iconst 0, 1) := by decide +kernel
theorem d_M_divide_180 : decode b_M_divide 180 = .ok (.iload_n 3, 1) := by decide +kernel
theorem d_M_divide_181 : decode b_M_divide 181 = .ok (.invokevirtual 47, 3) := by decide +kernel
theorem d_M_divide_184 : decode b_M_divide 184 = .ok (.aload_n 0, 1) := by decide +kernel
theorem d_M_divide_185 : decode b_M_divide 185 = .ok (.aload_n 0, 1) := by decide +kernel
theorem d_M_divide_186 : decode b_M_divide 186 = .ok (.getfield 19, 3) := by decide +kernel
theorem d_M_divide_189 : decode b_M_divide 189 = .ok (.iconst 0, 1) := by decide +kernel
theorem d_M_divide_190 : decode b_M_divide 190 = .ok (.iload 4, 2) := by decide +kernel
theorem d_M_divide_192 : decode b_M_divide 192 = .ok (.invokevirtual 47, 3) := by decide +kernel
theorem d_M_divide_195 : decode b_M_divide 195 = .ok (.return_, 1) := by decide +kernel
theorem d_M_clearRest_0 : decode b_M_clearRest 0 = .ok (.iconst 0, 1) := by decide +kernel
theorem d_M_clearRest_1 : decode b_M_clearRest 1 = .ok (.istore_n 1, 1) := by decide +kernel
theorem d_M_clearRest_2 : decode b_M_clearRest 2 = .ok (.iload_n 1, 1) := by decide +kernel
theorem d_M_clearRest_3 : decode b_M_clearRest 3 = .ok (.sipush 130, 3) := by decide +kernel
theorem d_M_clearRest_6 : decode b_M_clearRest 6 = .ok (.if_icmp .ge 16, 3) := by decide +kernel
theorem d_M_clearRest_9 : decode b_M_clearRest 9 = .ok (.aload_n 0, 1) := by decide +kernel
theorem d_M_clearRest_10 : decode b_M_clearRest 10 = .ok (.getfield 19, 3) := by decide +kernel
theorem d_M_clearRest_13 : decode b_M_clearRest 13 = .ok (.iload_n 1, 1) := by decide +kernel
theorem d_M_clearRest_14 : decode b_M_clearRest 14 = .ok (.iconst 0, 1) := by decide +kernel
theorem d_M_clearRest_15 : decode b_M_clearRest 15 = .ok (.bastore, 1) := by decide +kernel
theorem d_M_clearRest_16 : decode b_M_clearRest 16 = .ok (.iinc 1 1, 3) := by decide +kernel
theorem d_M_clearRest_19 : decode b_M_clearRest 19 = .ok (.goto (-17), 3) := by decide +kernel
theorem d_M_clearRest_22 : decode b_M_clearRest 22 = .ok (.iconst 0, 1) := by decide +kernel
theorem d_M_clearRest_23 : decode b_M_clearRest 23 = .ok (.istore_n 1, 1) := by decide +kernel
theorem d_M_clearRest_24 : decode b_M_clearRest 24 = .ok (.iload_n 1, 1) := by decide +kernel
theorem d_M_clearRest_25 : decode b_M_clearRest 25 = .ok (.sipush 128, 3) := by decide +kernel
theorem d_M_clearRest_28 : decode b_M_clearRest 28 = .ok (.if_icmp .ge 16, 3) := by decide +kernel
theorem d_M_clearRest_31 : decode b_M_clearRest 31 = .ok (.aload_n 0, 1) := by decide +kernel
theorem d_M_clearRest_32 : decode b_M_clearRest 32 = .ok (.getfield 16, 3) := by decide +kernel
theorem d_M_clearRest_35 : decode b_M_clearRest 35 = .ok (.iload_n 1, 1) := by decide +kernel
theorem d_M_clearRest_36 : decode b_M_clearRest 36 = .ok (.iconst 0, 1) := by decide +kernel
theorem d_M_clearRest_37 : decode b_M_clearRest 37 = .ok (.bastore, 1) := by decide +kernel
theorem d_M_clearRest_38 : decode b_M_clearRest 38 = .ok (.iinc 1 1, 3) := by decide +kernel
theorem d_M_clearRest_41 : decode b_M_clearRest 41 = .ok (.goto (-17), 3) := by decide +kernel
theorem d_M_clearRest_44 : decode b_M_clearRest 44 = .ok (.return_, 1) := by decide +kernel
theorem d_M_bring_0 : decode b_M_bring 0 = .ok (.sipush 129, 3) := by decide +kernel
theorem d_M_bring_3 : decode b_M_bring 3 = .ok (.istore_n 2, 1) := by decide +kernel
theorem d_M_bring_4 : decode b_M_bring 4 = .ok (.iload_n 2, 1) := by decide +kernel
theorem d_M_bring_5 : decode b_M_bring 5 = .ok (.ifCond .le 23, 3) := by decide +kernel
theorem d_M_bring_8 : decode b_M_bring 8 = .ok (.aload_n 0, 1) := by decide +kernel
theorem d_M_bring_9 : decode b_M_bring 9 = .ok (.getfield 19, 3) := by decide +kernel
theorem d_M_bring_12 : decode b_M_bring 12 = .ok (.iload_n 2, 1) := by decide +kernel
theorem d_M_bring_13 : decode b_M_bring 13 = .ok (.aload_n 0, 1) := by decide +kernel
theorem d_M_bring_14 : decode b_M_bring 14 = .ok (.getfield 19, 3) := by decide +kernel
theorem d_M_bring_17 : decode b_M_bring 17 = .ok (.iload_n 2, 1) := by decide +kernel
theorem d_M_bring_18 : decode b_M_bring 18 = .ok (.iconst 1, 1) := by decide +kernel
theorem d_M_bring_19 : decode b_M_bring 19 = .ok (.isub, 1) := by decide +kernel
theorem d_M_bring_20 : decode b_M_bring 20 = .ok (.baload, 1) := by decide +kernel
theorem d_M_bring_21 : decode b_M_bring 21 = .ok (.bastore, 1) := by decide +kernel
theorem d_M_bring_22 : decode b_M_bring 22 = .ok (.iinc 2 (-1), 3) := by decide +kernel
theorem d_M_bring_25 : decode b_M_bring 25 = .ok (.goto (-21), 3) := by decide +kernel
theorem d_M_bring_28 : decode b_M_bring 28 = .ok (.aload_n 0, 1) := by decide +kernel
theorem d_M_bring_29 : decode b_M_bring 29 = .ok (.getfield 19, 3) := by decide +kernel
theorem d_M_bring_32 : decode b_M_bring 32 = .ok (.iconst 0, 1) := by decide +kernel
theorem d_M_bring_33 : decode b_M_bring 33 = .ok (.iload_n 1, 1) := by decide +kernel
theorem d_M_bring_34 : decode b_M_bring 34 = .ok (.bastore, 1) := by decide +kernel
theorem d_M_bring_35 : decode b_M_bring 35 = .ok (.return_, 1) := by decide +kernel
theorem d_M_takeAway_0 : decode b_M_takeAway 0 = .ok (.iconst 1, 1) := by decide +kernel
theorem d_M_takeAway_1 : decode b_M_takeAway 1 = .ok (.istore_n 2, 1) := by decide +kernel
theorem d_M_takeAway_2 : decode b_M_takeAway 2 = .ok (.iconst 0, 1) := by decide +kernel
theorem d_M_takeAway_3 : decode b_M_takeAway 3 = .ok (.istore_n 3, 1) := by decide +kernel
theorem d_M_takeAway_4 : decode b_M_takeAway 4 = .ok (.iload_n 3, 1) := by decide +kernel
theorem d_M_takeAway_5 : decode b_M_takeAway 5 = .ok (.sipush 130, 3) := by decide +kernel
theorem d_M_takeAway_8 : decode b_M_takeAway 8 = .ok (.if_icmp .ge 35, 3) := by decide +kernel
theorem d_M_takeAway_11 : decode b_M_takeAway 11 = .ok (.aload_n 0, 1) := by decide +kernel
theorem d_M_takeAway_12 : decode b_M_takeAway 12 = .ok (.getfield 19, 3) := by decide +kernel
theorem d_M_takeAway_15 : decode b_M_takeAway 15 = .ok (.iload_n 3, 1) := by decide +kernel
theorem d_M_takeAway_16 : decode b_M_takeAway 16 = .ok (.baload, 1) := by decide +kernel
theorem d_M_takeAway_17 : decode b_M_takeAway 17 = .ok (.aload_n 0, 1) := by decide +kernel
theorem d_M_takeAway_18 : decode b_M_takeAway 18 = .ok (.iload_n 1, 1) := by decide +kernel
theorem d_M_takeAway_19 : decode b_M_takeAway 19 = .ok (.iload_n 3, 1) := by decide +kernel
theorem d_M_takeAway_20 : decode b_M_takeAway 20 = .ok (.invokevirtual 51, 3) := by decide +kernel
theorem d_M_takeAway_23 : decode b_M_takeAway 23 = .ok (.if_icmp .ne 7, 3) := by decide +kernel
theorem d_M_takeAway_26 : decode b_M_takeAway 26 = .ok (.iload_n 2, 1) := by decide +kernel
theorem d_M_takeAway_27 : decode b_M_takeAway 27 = .ok (.goto 9, 3) := by decide +kernel
theorem d_M_takeAway_30 : decode b_M_takeAway 30 = .ok (.aload_n 0, 1) := by decide +kernel
theorem d_M_takeAway_31 : decode b_M_takeAway 31 = .ok (.getfield 19, 3) := by decide +kernel
theorem d_M_takeAway_34 : decode b_M_takeAway 34 = .ok (.iload_n 3, 1) := by decide +kernel
theorem d_M_takeAway_35 : decode b_M_takeAway 35 = .ok (.baload, 1) := by decide +kernel
theorem d_M_takeAway_36 : decode b_M_takeAway 36 = .ok (.istore_n 2, 1) := by decide +kernel
theorem d_M_takeAway_37 : decode b_M_takeAway 37 = .ok (.iinc 3 1, 3) := by decide +kernel
theorem d_M_takeAway_40 : decode b_M_takeAway 40 = .ok (.goto (-36), 3) := by decide +kernel
theorem d_M_takeAway_43 : decode b_M_takeAway 43 = .ok (.iload_n 2, 1) := by decide +kernel
theorem d_M_takeAway_44 : decode b_M_takeAway 44 = .ok (.ifCond .ne 5, 3) := by decide +kernel
theorem d_M_takeAway_47 : decode b_M_takeAway 47 = .ok (.iconst 0, 1) := by decide +kernel
theorem d_M_takeAway_48 : decode b_M_takeAway 48 = .ok (.ireturn, 1) := by decide +kernel
theorem d_M_takeAway_49 : decode b_M_takeAway 49 = .ok (.iconst 0, 1) := by decide +kernel
theorem d_M_takeAway_50 : decode b_M_takeAway 50 = .ok (.istore_n 3, 1) := by decide +kernel
theorem d_M_takeAway_51 : decode b_M_takeAway 51 = .ok (.iconst 0, 1) := by decide +kernel
theorem d_M_takeAway_52 : decode b_M_takeAway 52 = .ok (.istore 4, 2) := by decide +kernel
theorem d_M_takeAway_54 : decode b_M_takeAway 54 = .ok (.iload 4, 2) := by decide +kernel
theorem d_M_takeAway_56 : decode b_M_takeAway 56 = .ok (.sipush 130, 3) := by decide +kernel
theorem d_M_takeAway_59 : decode b_M_takeAway 59 = .ok (.if_icmp .ge 84, 3) := by decide +kernel
theorem d_M_takeAway_62 : decode b_M_takeAway 62 = .ok (.aload_n 0, 1) := by decide +kernel
theorem d_M_takeAway_63 : decode b_M_takeAway 63 = .ok (.getfield 19, 3) := by decide +kernel
theorem d_M_takeAway_66 : decode b_M_takeAway 66 = .ok (.iload 4, 2) := by decide +kernel
theorem d_M_takeAway_68 : decode b_M_takeAway 68 = .ok (.baload, 1) := by decide +kernel
theorem d_M_takeAway_69 : decode b_M_takeAway 69 = .ok (.istore 5, 2) := by decide +kernel
theorem d_M_takeAway_71 : decode b_M_takeAway 71 = .ok (.aload_n 0, 1) := by decide +kernel
theorem d_M_takeAway_72 : decode b_M_takeAway 72 = .ok (.iload_n 1, 1) := by decide +kernel
theorem d_M_takeAway_73 : decode b_M_takeAway 73 = .ok (.iload 4, 2) := by decide +kernel
theorem d_M_takeAway_75 : decode b_M_takeAway 75 = .ok (.invokevirtual 51, 3) := by decide +kernel
theorem d_M_takeAway_78 : decode b_M_takeAway 78 = .ok (.istore 6, 2) := by decide +kernel
theorem d_M_takeAway_80 : decode b_M_takeAway 80 = .ok (.aload_n 0, 1) := by decide +kernel
theorem d_M_takeAway_81 : decode b_M_takeAway 81 = .ok (.getfield 19, 3) := by decide +kernel
theorem d_M_takeAway_84 : decode b_M_takeAway 84 = .ok (.iload 4, 2) := by decide +kernel
theorem d_M_takeAway_86 : decode b_M_takeAway 86 = .ok (.iload 5, 2) := by decide +kernel
theorem d_M_takeAway_88 : decode b_M_takeAway 88 = .ok (.iload 6, 2) := by decide +kernel
theorem d_M_takeAway_90 : decode b_M_takeAway 90 = .ok (.if_icmp .eq 7, 3) := by decide +kernel
theorem d_M_takeAway_93 : decode b_M_takeAway 93 = .ok (.iconst 1, 1) := by decide +kernel
theorem d_M_takeAway_94 : decode b_M_takeAway 94 = .ok (.goto 4, 3) := by decide +kernel
theorem d_M_takeAway_97 : decode b_M_takeAway 97 = .ok (.iconst 0, 1) := by decide +kernel
theorem d_M_takeAway_98 : decode b_M_takeAway 98 = .ok (.iload_n 3, 1) := by decide +kernel
theorem d_M_takeAway_99 : decode b_M_takeAway 99 = .ok (.if_icmp .eq 7, 3) := by decide +kernel
theorem d_M_takeAway_102 : decode b_M_takeAway 102 = .ok (.iconst 1, 1) := by decide +kernel
theorem d_M_takeAway_103 : decode b_M_takeAway 103 = .ok (.goto 4, 3) := by decide +kernel
theorem d_M_takeAway_106 : decode b_M_takeAway 106 = .ok (.iconst 0, 1) := by decide +kernel
theorem d_M_takeAway_107 : decode b_M_takeAway 107 = .ok (.bastore, 1) := by decide +kernel
theorem d_M_takeAway_108 : decode b_M_takeAway 108 = .ok (.iload 5, 2) := by decide +kernel
theorem d_M_takeAway_110 : decode b_M_takeAway 110 = .ok (.ifCond .ne 12, 3) := by decide +kernel
theorem d_M_takeAway_113 : decode b_M_takeAway 113 = .ok (.iload 6, 2) := by decide +kernel
theorem d_M_takeAway_115 : decode b_M_takeAway 115 = .ok (.ifCond .ne 16, 3) := by decide +kernel
theorem d_M_takeAway_118 : decode b_M_takeAway 118 = .ok (.iload_n 3, 1) := by decide +kernel
theorem d_M_takeAway_119 : decode b_M_takeAway 119 = .ok (.ifCond .ne 12, 3) := by decide +kernel
theorem d_M_takeAway_122 : decode b_M_takeAway 122 = .ok (.iload 6, 2) := by decide +kernel
theorem d_M_takeAway_124 : decode b_M_takeAway 124 = .ok (.ifCond .eq 11, 3) := by decide +kernel
theorem d_M_takeAway_127 : decode b_M_takeAway 127 = .ok (.iload_n 3, 1) := by decide +kernel
theorem d_M_takeAway_128 : decode b_M_takeAway 128 = .ok (.ifCond .eq 7, 3) := by decide +kernel
theorem d_M_takeAway_131 : decode b_M_takeAway 131 = .ok (.iconst 1, 1) := by decide +kernel
theorem d_M_takeAway_132 : decode b_M_takeAway 132 = .ok (.goto 4, 3) := by decide +kernel
theorem d_M_takeAway_135 : decode b_M_takeAway 135 = .ok (.iconst 0, 1) := by decide +kernel
theorem d_M_takeAway_136 : decode b_M_takeAway 136 = .ok (.istore_n 3, 1) := by decide +kernel
theorem d_M_takeAway_137 : decode b_M_takeAway 137 = .ok (.iinc 4 1, 3) := by decide +kernel
theorem d_M_takeAway_140 : decode b_M_takeAway 140 = .ok (.goto (-86), 3) := by decide +kernel
theorem d_M_takeAway_143 : decode b_M_takeAway 143 = .ok (.iconst 1, 1) := by decide +kernel
theorem d_M_takeAway_144 : decode b_M_takeAway 144 = .ok (.ireturn, 1) := by decide +kernel
theorem d_M_lower_0 : decode b_M_lower 0 = .ok (.iload_n 1, 1) := by decide +kernel
theorem d_M_lower_1 : decode b_M_lower 1 = .ok (.ifCond .lt 31, 3) := by decide +kernel
theorem d_M_lower_4 : decode b_M_lower 4 = .ok (.iload_n 2, 1) := by decide +kernel
theorem d_M_lower_5 : decode b_M_lower 5 = .ok (.sipush 128, 3) := by decide +kernel
theorem d_M_lower_8 : decode b_M_lower 8 = .ok (.if_icmp .ge 22, 3) := by decide +kernel
theorem d_M_lower_11 : decode b_M_lower 11 = .ok (.aload_n 0, 1) := by decide +kernel
theorem d_M_lower_12 : decode b_M_lower 12 = .ok (.getfield 7, 3) := by decide +kernel
theorem d_M_lower_15 : decode b_M_lower 15 = .ok (.sipush 128, 3) := by decide +kernel
theorem d_M_lower_18 : decode b_M_lower 18 = .ok (.iload_n 1, 1) := by decide +kernel
theorem d_M_lower_19 : decode b_M_lower 19 = .ok (.imul, 1) := by decide +kernel
theorem d_M_lower_20 : decode b_M_lower 20 = .ok (.iload_n 2, 1) := by decide +kernel
theorem d_M_lower_21 : decode b_M_lower 21 = .ok (.iadd, 1) := by decide +kernel
theorem d_M_lower_22 : decode b_M_lower 22 = .ok (.baload, 1) := by decide +kernel
theorem d_M_lower_23 : decode b_M_lower 23 = .ok (.ifCond .eq 7, 3) := by decide +kernel
theorem d_M_lower_26 : decode b_M_lower 26 = .ok (.iconst 1, 1) := by decide +kernel
theorem d_M_lower_27 : decode b_M_lower 27 = .ok (.goto 4, 3) := by decide +kernel
theorem d_M_lower_30 : decode b_M_lower 30 = .ok (.iconst 0, 1) := by decide +kernel
theorem d_M_lower_31 : decode b_M_lower 31 = .ok (.ireturn, 1) := by decide +kernel
theorem d_M_lower_32 : decode b_M_lower 32 = .ok (.iload_n 2, 1) := by decide +kernel
theorem d_M_lower_33 : decode b_M_lower 33 = .ok (.ifCond .eq 19, 3) := by decide +kernel
theorem d_M_lower_36 : decode b_M_lower 36 = .ok (.iload_n 2, 1) := by decide +kernel
theorem d_M_lower_37 : decode b_M_lower 37 = .ok (.iconst 1, 1) := by decide +kernel
theorem d_M_lower_38 : decode b_M_lower 38 = .ok (.if_icmp .le 18, 3) := by decide +kernel
theorem d_M_lower_41 : decode b_M_lower 41 = .ok (.aload_n 0, 1) := by decide +kernel
theorem d_M_lower_42 : decode b_M_lower 42 = .ok (.getfield 16, 3) := by decide +kernel
theorem d_M_lower_45 : decode b_M_lower 45 = .ok (.iload_n 2, 1) := by decide +kernel
theorem d_M_lower_46 : decode b_M_lower 46 = .ok (.iconst 2, 1) := by decide +kernel
theorem d_M_lower_47 : decode b_M_lower 47 = .ok (.isub, 1) := by decide +kernel
theorem d_M_lower_48 : decode b_M_lower 48 = .ok (.baload, 1) := by decide +kernel
theorem d_M_lower_49 : decode b_M_lower 49 = .ok (.ifCond .eq 7, 3) := by decide +kernel
theorem d_M_lower_52 : decode b_M_lower 52 = .ok (.iconst 1, 1) := by decide +kernel
theorem d_M_lower_53 : decode b_M_lower 53 = .ok (.goto 4, 3) := by decide +kernel
theorem d_M_lower_56 : decode b_M_lower 56 = .ok (.iconst 0, 1) := by decide +kernel
theorem d_M_lower_57 : decode b_M_lower 57 = .ok (.ireturn, 1) := by decide +kernel
theorem d_M_root_0 : decode b_M_root 0 = .ok (.aload_n 0, 1) := by decide +kernel
theorem d_M_root_1 : decode b_M_root 1 = .ok (.iload_n 1, 1) := by decide +kernel
theorem d_M_root_2 : decode b_M_root 2 = .ok (.invokestatic 30, 3) := by decide +kernel
theorem d_M_root_5 : decode b_M_root 5 = .ok (.ifCond .ne 17, 3) := by decide +kernel
theorem d_M_root_8 : decode b_M_root 8 = .ok (.iload_n 2, 1) := by decide +kernel
theorem d_M_root_9 : decode b_M_root 9 = .ok (.invokestatic 30, 3) := by decide +kernel
theorem d_M_root_12 : decode b_M_root 12 = .ok (.ifCond .ne 10, 3) := by decide +kernel
theorem d_M_root_15 : decode b_M_root 15 = .ok (.iload_n 3, 1) := by decide +kernel
theorem d_M_root_16 : decode b_M_root 16 = .ok (.invokestatic 30, 3) := by decide +kernel
theorem d_M_root_19 : decode b_M_root 19 = .ok (.ifCond .eq 7, 3) := by decide +kernel
theorem d_M_root_22 : decode b_M_root 22 = .ok (.iconst 1, 1) := by decide +kernel
theorem d_M_root_23 : decode b_M_root 23 = .ok (.goto 13, 3) := by decide +kernel
theorem d_M_root_26 : decode b_M_root 26 = .ok (.iload_n 2, 1) := by decide +kernel
theorem d_M_root_27 : decode b_M_root 27 = .ok (.iload_n 3, 1) := by decide +kernel
theorem d_M_root_28 : decode b_M_root 28 = .ok (.if_icmp .ne 7, 3) := by decide +kernel
theorem d_M_root_31 : decode b_M_root 31 = .ok (.iconst 2, 1) := by decide +kernel
theorem d_M_root_32 : decode b_M_root 32 = .ok (.goto 4, 3) := by decide +kernel
theorem d_M_root_35 : decode b_M_root 35 = .ok (.iconst 0, 1) := by decide +kernel
theorem d_M_root_36 : decode b_M_root 36 = .ok (.putfield 26, 3) := by decide +kernel
theorem d_M_root_39 : decode b_M_root 39 = .ok (.aload_n 0, 1) := by decide +kernel
theorem d_M_root_40 : decode b_M_root 40 = .ok (.getfield 26, 3) := by decide +kernel
theorem d_M_root_43 : decode b_M_root 43 = .ok (.ifCond .le 4, 3) := by decide +kernel
theorem d_M_root_46 : decode b_M_root 46 = .ok (.return_, 1) := by decide +kernel
theorem d_M_root_47 : decode b_M_root 47 = .ok (.aload_n 0, 1) := by decide +kernel
theorem d_M_root_48 : decode b_M_root 48 = .ok (.invokevirtual 55, 3) := by decide +kernel
theorem d_M_root_51 : decode b_M_root 51 = .ok (.bipush 63, 2) := by decide +kernel
theorem d_M_root_53 : decode b_M_root 53 = .ok (.istore 4, 2) := by decide +kernel
theorem d_M_root_55 : decode b_M_root 55 = .ok (.iload 4, 2) := by decide +kernel
theorem d_M_root_57 : decode b_M_root 57 = .ok (.ifCond .lt 95, 3) := by decide +kernel
theorem d_M_root_60 : decode b_M_root 60 = .ok (.aload_n 0, 1) := by decide +kernel
theorem d_M_root_61 : decode b_M_root 61 = .ok (.aload_n 0, 1) := by decide +kernel
theorem d_M_root_62 : decode b_M_root 62 = .ok (.getfield 7, 3) := by decide +kernel
theorem d_M_root_65 : decode b_M_root 65 = .ok (.sipush 128, 3) := by decide +kernel
theorem d_M_root_68 : decode b_M_root 68 = .ok (.iload_n 1, 1) := by decide +kernel
theorem d_M_root_69 : decode b_M_root 69 = .ok (.imul, 1) := by decide +kernel
theorem d_M_root_70 : decode b_M_root 70 = .ok (.iconst 2, 1) := by decide +kernel
theorem d_M_root_71 : decode b_M_root 71 = .ok (.iload 4, 2) := by decide +kernel
theorem d_M_root_73 : decode b_M_root 73 = .ok (.imul, 1) := by decide +kernel
theorem d_M_root_74 : decode b_M_root 74 = .ok (.iadd, 1) := by decide +kernel
theorem d_M_root_75 : decode b_M_root 75 = .ok (.iconst 1, 1) := by decide +kernel
theorem d_M_root_76 : decode b_M_root 76 = .ok (.iadd, 1) := by decide +kernel
theorem d_M_root_77 : decode b_M_root 77 = .ok (.baload, 1) := by decide +kernel
theorem d_M_root_78 : decode b_M_root 78 = .ok (.invokevirtual 58, 3) := by decide +kernel
theorem d_M_root_81 : decode b_M_root 81 = .ok (.aload_n 0, 1) := by decide +kernel
theorem d_M_root_82 : decode b_M_root 82 = .ok (.aload_n 0, 1) := by decide +kernel
theorem d_M_root_83 : decode b_M_root 83 = .ok (.getfield 7, 3) := by decide +kernel
theorem d_M_root_86 : decode b_M_root 86 = .ok (.sipush 128, 3) := by decide +kernel
theorem d_M_root_89 : decode b_M_root 89 = .ok (.iload_n 1, 1) := by decide +kernel
theorem d_M_root_90 : decode b_M_root 90 = .ok (.imul, 1) := by decide +kernel
theorem d_M_root_91 : decode b_M_root 91 = .ok (.iconst 2, 1) := by decide +kernel
theorem d_M_root_92 : decode b_M_root 92 = .ok (.iload 4, 2) := by decide +kernel
theorem d_M_root_94 : decode b_M_root 94 = .ok (.imul, 1) := by decide +kernel
theorem d_M_root_95 : decode b_M_root 95 = .ok (.iadd, 1) := by decide +kernel
theorem d_M_root_96 : decode b_M_root 96 = .ok (.baload, 1) := by decide +kernel
theorem d_M_root_97 : decode b_M_root 97 = .ok (.invokevirtual 58, 3) := by decide +kernel
theorem d_M_root_100 : decode b_M_root 100 = .ok (.aload_n 0, 1) := by decide +kernel
theorem d_M_root_101 : decode b_M_root 101 = .ok (.iconst (-1), 1) := by decide +kernel
theorem d_M_root_102 : decode b_M_root 102 = .ok (.invokevirtual 62, 3) := by decide +kernel
theorem d_M_root_105 : decode b_M_root 105 = .ok (.istore 5, 2) := by decide +kernel
theorem d_M_root_107 : decode b_M_root 107 = .ok (.bipush 127, 2) := by decide +kernel
theorem d_M_root_109 : decode b_M_root 109 = .ok (.istore 6, 2) := by decide +kernel
theorem d_M_root_111 : decode b_M_root 111 = .ok (.iload 6, 2) := by decide +kernel
theorem d_M_root_113 : decode b_M_root 113 = .ok (.ifCond .le 25, 3) := by decide +kernel
theorem d_M_root_116 : decode b_M_root 116 = .ok (.aload_n 0, 1) := by decide +kernel
theorem d_M_root_117 : decode b_M_root 117 = .ok (.getfield 16, 3) := by decide +kernel
theorem d_M_root_120 : decode b_M_root 120 = .ok (.iload 6, 2) := by decide +kernel
theorem d_M_root_122 : decode b_M_root 122 = .ok (.aload_n 0, 1) := by decide +kernel
theorem d_M_root_123 : decode b_M_root 123 = .ok (.getfield 16, 3) := by decide +kernel
theorem d_M_root_126 : decode b_M_root 126 = .ok (.iload 6, 2) := by decide +kernel
theorem d_M_root_128 : decode b_M_root 128 = .ok (.iconst 1, 1) := by decide +kernel
theorem d_M_root_129 : decode b_M_root 129 = .ok (.isub, 1) := by decide +kernel
theorem d_M_root_130 : decode b_M_root 130 = .ok (.baload, 1) := by decide +kernel
theorem d_M_root_131 : decode b_M_root 131 = .ok (.bastore, 1) := by decide +kernel
theorem d_M_root_132 : decode b_M_root 132 = .ok (.iinc 6 (-1), 3) := by decide +kernel
theorem d_M_root_135 : decode b_M_root 135 = .ok (.goto (-24), 3) := by decide +kernel
theorem d_M_root_138 : decode b_M_root 138 = .ok (.aload_n 0, 1) := by decide +kernel
theorem d_M_root_139 : decode b_M_root 139 = .ok (.getfield 16, 3) := by decide +kernel
theorem d_M_root_142 : decode b_M_root 142 = .ok (.iconst 0, 1) := by decide +kernel
theorem d_M_root_143 : decode b_M_root 143 = .ok (.iload 5, 2) := by decide +kernel
theorem d_M_root_145 : decode b_M_root 145 = .ok (.bastore, 1) := by decide +kernel
theorem d_M_root_146 : decode b_M_root 146 = .ok (.iinc 4 (-1), 3) := by decide +kernel
theorem d_M_root_149 : decode b_M_root 149 = .ok (.goto (-94), 3) := by decide +kernel
theorem d_M_root_152 : decode b_M_root 152 = .ok (.aload_n 0, 1) := by decide +kernel
theorem d_M_root_153 : decode b_M_root 153 = .ok (.aload_n 0, 1) := by decide +kernel
theorem d_M_root_154 : decode b_M_root 154 = .ok (.getfield 16, 3) := by decide +kernel
theorem d_M_root_157 : decode b_M_root 157 = .ok (.iconst 0, 1) := by decide +kernel
theorem d_M_root_158 : decode b_M_root 158 = .ok (.iload_n 2, 1) := by decide +kernel
theorem d_M_root_159 : decode b_M_root 159 = .ok (.invokevirtual 47, 3) := by decide +kernel
theorem d_M_root_162 : decode b_M_root 162 = .ok (.aload_n 0, 1) := by decide +kernel
theorem d_M_root_163 : decode b_M_root 163 = .ok (.aload_n 0, 1) := by decide +kernel
theorem d_M_root_164 : decode b_M_root 164 = .ok (.getfield 19, 3) := by decide +kernel
theorem d_M_root_167 : decode b_M_root 167 = .ok (.iconst 0, 1) := by decide +kernel
theorem d_M_root_168 : decode b_M_root 168 = .ok (.iload_n 3, 1) := by decide +kernel
theorem d_M_root_169 : decode b_M_root 169 = .ok (.invokevirtual 47, 3) := by decide +kernel
theorem d_M_root_172 : decode b_M_root 172 = .ok (.return_, 1) := by decide +kernel
theorem d_M_shift_0 : decode b_M_shift 0 = .ok (.aload_n 0, 1) := by decide +kernel
theorem d_M_shift_1 : decode b_M_shift 1 = .ok (.iload_n 1, 1) := by decide +kernel
theorem d_M_shift_2 : decode b_M_shift 2 = .ok (.invokestatic 30, 3) := by decide +kernel
theorem d_M_shift_5 : decode b_M_shift 5 = .ok (.ifCond .ne 10, 3) := by decide +kernel
theorem d_M_shift_8 : decode b_M_shift 8 = .ok (.iload_n 3, 1) := by decide +kernel
theorem d_M_shift_9 : decode b_M_shift 9 = .ok (.invokestatic 30, 3) := by decide +kernel
theorem d_M_shift_12 : decode b_M_shift 12 = .ok (.ifCond .eq 7, 3) := by decide +kernel
theorem d_M_shift_15 : decode b_M_shift 15 = .ok (.iconst 1, 1) := by decide +kernel
theorem d_M_shift_16 : decode b_M_shift 16 = .ok (.goto 4, 3) := by decide +kernel
theorem d_M_shift_19 : decode b_M_shift 19 = .ok (.iconst 0, 1) := by decide +kernel
theorem d_M_shift_20 : decode b_M_shift 20 = .ok (.putfield 26, 3) := by decide +kernel
theorem d_M_shift_23 : decode b_M_shift 23 = .ok (.aload_n 0, 1) := by decide +kernel
theorem d_M_shift_24 : decode b_M_shift 24 = .ok (.getfield 26, 3) := by decide +kernel
theorem d_M_shift_27 : decode b_M_shift 27 = .ok (.ifCond .ne 18, 3) := by decide +kernel
theorem d_M_shift_30 : decode b_M_shift 30 = .ok (.aload_n 0, 1) := by decide +kernel
theorem d_M_shift_31 : decode b_M_shift 31 = .ok (.iload_n 1, 1) := by decide +kernel
theorem d_M_shift_32 : decode b_M_shift 32 = .ok (.iload_n 2, 1) := by decide +kernel
theorem d_M_shift_33 : decode b_M_shift 33 = .ok (.i2l, 1) := by decide +kernel
theorem d_M_shift_34 : decode b_M_shift 34 = .ok (.iload_n 3, 1) := by decide +kernel
theorem d_M_shift_35 : decode b_M_shift 35 = .ok (.invokevirtual 67, 3) := by decide +kernel
theorem d_M_shift_38 : decode b_M_shift 38 = .ok (.ifCond .eq 7, 3) := by decide +kernel
theorem d_M_shift_41 : decode b_M_shift 41 = .ok (.iconst 1, 1) := by decide +kernel
theorem d_M_shift_42 : decode b_M_shift 42 = .ok (.goto 4, 3) := by decide +kernel
theorem d_M_shift_45 : decode b_M_shift 45 = .ok (.iconst 0, 1) := by decide +kernel
theorem d_M_shift_46 : decode b_M_shift 46 = .ok (.ireturn, 1) := by decide +kernel
theorem d_M_move_0 : decode b_M_move 0 = .ok (.iconst 0, 1) := by decide +kernel
theorem d_M_move_1 : decode b_M_move 1 = .ok (.istore 5, 2) := by decide +kernel
theorem d_M_move_3 : decode b_M_move 3 = .ok (.iconst 0, 1) := by decide +kernel
theorem d_M_move_4 : decode b_M_move 4 = .ok (.istore 6, 2) := by decide +kernel
theorem d_M_move_6 : decode b_M_move 6 = .ok (.iload 6, 2) := by decide +kernel
theorem d_M_move_8 : decode b_M_move 8 = .ok (.sipush 128, 3) := by decide +kernel
theorem d_M_move_11 : decode b_M_move 11 = .ok (.if_icmp .ge 68, 3) := by decide +kernel
theorem d_M_move_14 : decode b_M_move 14 = .ok (.iload 6, 2) := by decide +kernel
theorem d_M_move_16 : decode b_M_move 16 = .ok (.i2l, 1) := by decide +kernel
theorem d_M_move_17 : decode b_M_move 17 = .ok (.lload_n 2, 1) := by decide +kernel
theorem d_M_move_18 : decode b_M_move 18 = .ok (.ladd, 1) := by decide +kernel
theorem d_M_move_19 : decode b_M_move 19 = .ok (.lstore 7, 2) := by decide +kernel
theorem d_M_move_21 : decode b_M_move 21 = .ok (.aload_n 0, 1) := by decide +kernel
theorem d_M_move_22 : decode b_M_move 22 = .ok (.getfield 16, 3) := by decide +kernel
theorem d_M_move_25 : decode b_M_move 25 = .ok (.iload 6, 2) := by decide +kernel
theorem d_M_move_27 : decode b_M_move 27 = .ok (.iconst 0, 1) := by decide +kernel
theorem d_M_move_28 : decode b_M_move 28 = .ok (.bastore, 1) := by decide +kernel
theorem d_M_move_29 : decode b_M_move 29 = .ok (.iload 5, 2) := by decide +kernel
theorem d_M_move_31 : decode b_M_move 31 = .ok (.ifCond .ne 35, 3) := by decide +kernel
theorem d_M_move_34 : decode b_M_move 34 = .ok (.aload_n 0, 1) := by decide +kernel
theorem d_M_move_35 : decode b_M_move 35 = .ok (.getfield 7, 3) := by decide +kernel
theorem d_M_move_38 : decode b_M_move 38 = .ok (.sipush 128, 3) := by decide +kernel
theorem d_M_move_41 : decode b_M_move 41 = .ok (.iload_n 1, 1) := by decide +kernel
theorem d_M_move_42 : decode b_M_move 42 = .ok (.imul, 1) := by decide +kernel
theorem d_M_move_43 : decode b_M_move 43 = .ok (.iload 6, 2) := by decide +kernel
theorem d_M_move_45 : decode b_M_move 45 = .ok (.iadd, 1) := by decide +kernel
theorem d_M_move_46 : decode b_M_move 46 = .ok (.baload, 1) := by decide +kernel
theorem d_M_move_47 : decode b_M_move 47 = .ok (.ifCond .eq 23, 3) := by decide +kernel
theorem d_M_move_50 : decode b_M_move 50 = .ok (.lload 7, 2) := by decide +kernel
theorem d_M_move_52 : decode b_M_move 52 = .ok (.lconst 0, 1) := by decide +kernel
theorem d_M_move_53 : decode b_M_move 53 = .ok (.lcmp, 1) := by decide +kernel
theorem d_M_move_54 : decode b_M_move 54 = .ok (.ifCond .lt 12, 3) := by decide +kernel
theorem d_M_move_57 : decode b_M_move 57 = .ok (.lload 7, 2) := by decide +kernel
theorem d_M_move_59 : decode b_M_move 59 = .ok (.ldc2_w 65, 3) := by decide +kernel
theorem d_M_move_62 : decode b_M_move 62 = .ok (.lcmp, 1) := by decide +kernel
theorem d_M_move_63 : decode b_M_move 63 = .ok (.ifCond .lt 7, 3) := by decide +kernel
theorem d_M_move_66 : decode b_M_move 66 = .ok (.iconst 1, 1) := by decide +kernel
theorem d_M_move_67 : decode b_M_move 67 = .ok (.goto 4, 3) := by decide +kernel
theorem d_M_move_70 : decode b_M_move 70 = .ok (.iconst 0, 1) := by decide +kernel
theorem d_M_move_71 : decode b_M_move 71 = .ok (.istore 5, 2) := by decide +kernel
theorem d_M_move_73 : decode b_M_move 73 = .ok (.iinc 6 1, 3) := by decide +kernel
theorem d_M_move_76 : decode b_M_move 76 = .ok (.goto (-70), 3) := by decide +kernel
theorem d_M_move_79 : decode b_M_move 79 = .ok (.iconst 0, 1) := by decide +kernel
theorem d_M_move_80 : decode b_M_move 80 = .ok (.istore 6, 2) := by decide +kernel
theorem d_M_move_82 : decode b_M_move 82 = .ok (.iload 6, 2) := by decide +kernel
theorem d_M_move_84 : decode b_M_move 84 = .ok (.sipush 128, 3) := by decide +kernel
theorem d_M_move_87 : decode b_M_move 87 = .ok (.if_icmp .ge 53, 3) := by decide +kernel
theorem d_M_move_90 : decode b_M_move 90 = .ok (.iload 6, 2) := by decide +kernel
theorem d_M_move_92 : decode b_M_move 92 = .ok (.i2l, 1) := by decide +kernel
theorem d_M_move_93 : decode b_M_move 93 = .ok (.lload_n 2, 1) := by decide +kernel
theorem d_M_move_94 : decode b_M_move 94 = .ok (.ladd, 1) := by decide +kernel
theorem d_M_move_95 : decode b_M_move 95 = .ok (.lstore 7, 2) := by decide +kernel
theorem d_M_move_97 : decode b_M_move 97 = .ok (.lload 7, 2) := by decide +kernel
theorem d_M_move_99 : decode b_M_move 99 = .ok (.lconst 0, 1) := by decide +kernel
theorem d_M_move_100 : decode b_M_move 100 = .ok (.lcmp, 1) := by decide +kernel
theorem d_M_move_101 : decode b_M_move 101 = .ok (.ifCond .lt 33, 3) := by decide +kernel
theorem d_M_move_104 : decode b_M_move 104 = .ok (.lload 7, 2) := by decide +kernel
theorem d_M_move_106 : decode b_M_move 106 = .ok (.ldc2_w 65, 3) := by decide +kernel
theorem d_M_move_109 : decode b_M_move 109 = .ok (.lcmp, 1) := by decide +kernel
theorem d_M_move_110 : decode b_M_move 110 = .ok (.ifCond .ge 24, 3) := by decide +kernel
theorem d_M_move_113 : decode b_M_move 113 = .ok (.aload_n 0, 1) := by decide +kernel
theorem d_M_move_114 : decode b_M_move 114 = .ok (.getfield 16, 3) := by decide +kernel
theorem d_M_move_117 : decode b_M_move 117 = .ok (.lload 7, 2) := by decide +kernel
theorem d_M_move_119 : decode b_M_move 119 = .ok (.l2i, 1) := by decide +kernel
theorem d_M_move_120 : decode b_M_move 120 = .ok (.aload_n 0, 1) := by decide +kernel
theorem d_M_move_121 : decode b_M_move 121 = .ok (.getfield 7, 3) := by decide +kernel
theorem d_M_move_124 : decode b_M_move 124 = .ok (.sipush 128, 3) := by decide +kernel
theorem d_M_move_127 : decode b_M_move 127 = .ok (.iload_n 1, 1) := by decide +kernel
theorem d_M_move_128 : decode b_M_move 128 = .ok (.imul, 1) := by decide +kernel
theorem d_M_move_129 : decode b_M_move 129 = .ok (.iload 6, 2) := by decide +kernel
theorem d_M_move_131 : decode b_M_move 131 = .ok (.iadd, 1) := by decide +kernel
theorem d_M_move_132 : decode b_M_move 132 = .ok (.baload, 1) := by decide +kernel
theorem d_M_move_133 : decode b_M_move 133 = .ok (.bastore, 1) := by decide +kernel
theorem d_M_move_134 : decode b_M_move 134 = .ok (.iinc 6 1, 3) := by decide +kernel
theorem d_M_move_137 : decode b_M_move 137 = .ok (.goto (-55), 3) := by decide +kernel
theorem d_M_move_140 : decode b_M_move 140 = .ok (.aload_n 0, 1) := by decide +kernel
theorem d_M_move_141 : decode b_M_move 141 = .ok (.aload_n 0, 1) := by decide +kernel
theorem d_M_move_142 : decode b_M_move 142 = .ok (.getfield 16, 3) := by decide +kernel
theorem d_M_move_145 : decode b_M_move 145 = .ok (.iconst 0, 1) := by decide +kernel
theorem d_M_move_146 : decode b_M_move 146 = .ok (.iload 4, 2) := by decide +kernel
theorem d_M_move_148 : decode b_M_move 148 = .ok (.invokevirtual 47, 3) := by decide +kernel
theorem d_M_move_151 : decode b_M_move 151 = .ok (.iload 5, 2) := by decide +kernel
theorem d_M_move_153 : decode b_M_move 153 = .ok (.ireturn, 1) := by decide +kernel
theorem d_M_jam_0 : decode b_M_jam 0 = .ok (.aload_n 0, 1) := by decide +kernel
theorem d_M_jam_1 : decode b_M_jam 1 = .ok (.iload_n 1, 1) := by decide +kernel
theorem d_M_jam_2 : decode b_M_jam 2 = .ok (.invokestatic 30, 3) := by decide +kernel
theorem d_M_jam_5 : decode b_M_jam 5 = .ok (.ifCond .ne 10, 3) := by decide +kernel
theorem d_M_jam_8 : decode b_M_jam 8 = .ok (.iload_n 3, 1) := by decide +kernel
theorem d_M_jam_9 : decode b_M_jam 9 = .ok (.invokestatic 30, 3) := by decide +kernel
theorem d_M_jam_12 : decode b_M_jam 12 = .ok (.ifCond .eq 7, 3) := by decide +kernel
theorem d_M_jam_15 : decode b_M_jam 15 = .ok (.iconst 1, 1) := by decide +kernel
theorem d_M_jam_16 : decode b_M_jam 16 = .ok (.goto 12, 3) := by decide +kernel
theorem d_M_jam_19 : decode b_M_jam 19 = .ok (.iload_n 2, 1) := by decide +kernel
theorem d_M_jam_20 : decode b_M_jam 20 = .ok (.ifCond .ge 7, 3) := by decide +kernel
theorem d_M_jam_23 : decode b_M_jam 23 = .ok (.iconst 2, 1) := by decide +kernel
theorem d_M_jam_24 : decode b_M_jam 24 = .ok (.goto 4, 3) := by decide +kernel
theorem d_M_jam_27 : decode b_M_jam 27 = .ok (.iconst 0, 1) := by decide +kernel
theorem d_M_jam_28 : decode b_M_jam 28 = .ok (.putfield 26, 3) := by decide +kernel
theorem d_M_jam_31 : decode b_M_jam 31 = .ok (.aload_n 0, 1) := by decide +kernel
theorem d_M_jam_32 : decode b_M_jam 32 = .ok (.getfield 26, 3) := by decide +kernel
theorem d_M_jam_35 : decode b_M_jam 35 = .ok (.ifCond .ne 26, 3) := by decide +kernel
theorem d_M_jam_38 : decode b_M_jam 38 = .ok (.aload_n 0, 1) := by decide +kernel
theorem d_M_jam_39 : decode b_M_jam 39 = .ok (.iload_n 1, 1) := by decide +kernel
theorem d_M_jam_40 : decode b_M_jam 40 = .ok (.iload_n 2, 1) := by decide +kernel
theorem d_M_jam_41 : decode b_M_jam 41 = .ok (.i2l, 1) := by decide +kernel
theorem d_M_jam_42 : decode b_M_jam 42 = .ok (.lneg, 1) := by decide +kernel
theorem d_M_jam_43 : decode b_M_jam 43 = .ok (.iload_n 3, 1) := by decide +kernel
theorem d_M_jam_44 : decode b_M_jam 44 = .ok (.invokevirtual 67, 3) := by decide +kernel
theorem d_M_jam_47 : decode b_M_jam 47 = .ok (.ifCond .eq 14, 3) := by decide +kernel
theorem d_M_jam_50 : decode b_M_jam 50 = .ok (.aload_n 0, 1) := by decide +kernel
theorem d_M_jam_51 : decode b_M_jam 51 = .ok (.getfield 7, 3) := by decide +kernel
theorem d_M_jam_54 : decode b_M_jam 54 = .ok (.sipush 128, 3) := by decide +kernel
theorem d_M_jam_57 : decode b_M_jam 57 = .ok (.iload_n 3, 1) := by decide +kernel
theorem d_M_jam_58 : decode b_M_jam 58 = .ok (.imul, 1) := by decide +kernel
theorem d_M_jam_59 : decode b_M_jam 59 = .ok (.iconst 1, 1) := by decide +kernel
theorem d_M_jam_60 : decode b_M_jam 60 = .ok (.bastore, 1) := by decide +kernel
theorem d_M_jam_61 : decode b_M_jam 61 = .ok (.return_, 1) := by decide +kernel
theorem d_M_zeros_0 : decode b_M_zeros 0 = .ok (.aload_n 0, 1) := by decide +kernel
theorem d_M_zeros_1 : decode b_M_zeros 1 = .ok (.iload_n 1, 1) := by decide +kernel
theorem d_M_zeros_2 : decode b_M_zeros 2 = .ok (.invokestatic 30, 3) := by decide +kernel
theorem d_M_zeros_5 : decode b_M_zeros 5 = .ok (.ifCond .eq 7, 3) := by decide +kernel
theorem d_M_zeros_8 : decode b_M_zeros 8 = .ok (.iconst 1, 1) := by decide +kernel
theorem d_M_zeros_9 : decode b_M_zeros 9 = .ok (.goto 4, 3) := by decide +kernel
theorem d_M_zeros_12 : decode b_M_zeros 12 = .ok (.iconst 0, 1) := by decide +kernel
theorem d_M_zeros_13 : decode b_M_zeros 13 = .ok (.putfield 26, 3) := by decide +kernel
theorem d_M_zeros_16 : decode b_M_zeros 16 = .ok (.iconst 0, 1) := by decide +kernel
theorem d_M_zeros_17 : decode b_M_zeros 17 = .ok (.istore_n 2, 1) := by decide +kernel
theorem d_M_zeros_18 : decode b_M_zeros 18 = .ok (.aload_n 0, 1) := by decide +kernel
theorem d_M_zeros_19 : decode b_M_zeros 19 = .ok (.getfield 26, 3) := by decide +kernel
theorem d_M_zeros_22 : decode b_M_zeros 22 = .ok (.ifCond .ne 34, 3) := by decide +kernel
theorem d_M_zeros_25 : decode b_M_zeros 25 = .ok (.iload_n 2, 1) := by decide +kernel
theorem d_M_zeros_26 : decode b_M_zeros 26 = .ok (.sipush 128, 3) := by decide +kernel
theorem d_M_zeros_29 : decode b_M_zeros 29 = .ok (.if_icmp .ge 27, 3) := by decide +kernel
theorem d_M_zeros_32 : decode b_M_zeros 32 = .ok (.aload_n 0, 1) := by decide +kernel
theorem d_M_zeros_33 : decode b_M_zeros 33 = .ok (.getfield 7, 3) := by decide +kernel
theorem d_M_zeros_36 : decode b_M_zeros 36 = .ok (.sipush 128, 3) := by decide +kernel
theorem d_M_zeros_39 : decode b_M_zeros 39 = .ok (.iload_n 1, 1) := by decide +kernel
theorem d_M_zeros_40 : decode b_M_zeros 40 = .ok (.imul, 1) := by decide +kernel
theorem d_M_zeros_41 : decode b_M_zeros 41 = .ok (.bipush 127, 2) := by decide +kernel
theorem d_M_zeros_43 : decode b_M_zeros 43 = .ok (.iadd, 1) := by decide +kernel
theorem d_M_zeros_44 : decode b_M_zeros 44 = .ok (.iload_n 2, 1) := by decide +kernel
theorem d_M_zeros_45 : decode b_M_zeros 45 = .ok (.isub, 1) := by decide +kernel
theorem d_M_zeros_46 : decode b_M_zeros 46 = .ok (.baload, 1) := by decide +kernel
theorem d_M_zeros_47 : decode b_M_zeros 47 = .ok (.ifCond .ne 9, 3) := by decide +kernel
theorem d_M_zeros_50 : decode b_M_zeros 50 = .ok (.iinc 2 1, 3) := by decide +kernel
theorem d_M_zeros_53 : decode b_M_zeros 53 = .ok (.goto (-35), 3) := by decide +kernel
theorem d_M_zeros_56 : decode b_M_zeros 56 = .ok (.iload_n 2, 1) := by decide +kernel
theorem d_M_zeros_57 : decode b_M_zeros 57 = .ok (.ireturn, 1) := by decide +kernel
theorem d_M_compare_0 : decode b_M_compare 0 = .ok (.aload_n 0, 1) := by decide +kernel
theorem d_M_compare_1 : decode b_M_compare 1 = .ok (.iload_n 1, 1) := by decide +kernel
theorem d_M_compare_2 : decode b_M_compare 2 = .ok (.invokestatic 30, 3) := by decide +kernel
theorem d_M_compare_5 : decode b_M_compare 5 = .ok (.ifCond .ne 10, 3) := by decide +kernel
theorem d_M_compare_8 : decode b_M_compare 8 = .ok (.iload_n 2, 1) := by decide +kernel
theorem d_M_compare_9 : decode b_M_compare 9 = .ok (.invokestatic 30, 3) := by decide +kernel
theorem d_M_compare_12 : decode b_M_compare 12 = .ok (.ifCond .eq 7, 3) := by decide +kernel
theorem d_M_compare_15 : decode b_M_compare 15 = .ok (.iconst 1, 1) := by decide +kernel
theorem d_M_compare_16 : decode b_M_compare 16 = .ok (.goto 4, 3) := by decide +kernel
theorem d_M_compare_19 : decode b_M_compare 19 = .ok (.iconst 0, 1) := by decide +kernel
theorem d_M_compare_20 : decode b_M_compare 20 = .ok (.putfield 26, 3) := by decide +kernel
theorem d_M_compare_23 : decode b_M_compare 23 = .ok (.iconst 0, 1) := by decide +kernel
theorem d_M_compare_24 : decode b_M_compare 24 = .ok (.istore_n 3, 1) := by decide +kernel
theorem d_M_compare_25 : decode b_M_compare 25 = .ok (.iconst 0, 1) := by decide +kernel
theorem d_M_compare_26 : decode b_M_compare 26 = .ok (.istore 4, 2) := by decide +kernel
theorem d_M_compare_28 : decode b_M_compare 28 = .ok (.iload 4, 2) := by decide +kernel
theorem d_M_compare_30 : decode b_M_compare 30 = .ok (.sipush 128, 3) := by decide +kernel
theorem d_M_compare_33 : decode b_M_compare 33 = .ok (.if_icmp .ge 68, 3) := by decide +kernel
theorem d_M_compare_36 : decode b_M_compare 36 = .ok (.aload_n 0, 1) := by decide +kernel
theorem d_M_compare_37 : decode b_M_compare 37 = .ok (.getfield 26, 3) := by decide +kernel
theorem d_M_compare_40 : decode b_M_compare 40 = .ok (.ifCond .ne 61, 3) := by decide +kernel
theorem d_M_compare_43 : decode b_M_compare 43 = .ok (.aload_n 0, 1) := by decide +kernel
theorem d_M_compare_44 : decode b_M_compare 44 = .ok (.getfield 7, 3) := by decide +kernel
theorem d_M_compare_47 : decode b_M_compare 47 = .ok (.sipush 128, 3) := by decide +kernel
theorem d_M_compare_50 : decode b_M_compare 50 = .ok (.iload_n 1, 1) := by decide +kernel
theorem d_M_compare_51 : decode b_M_compare 51 = .ok (.imul, 1) := by decide +kernel
theorem d_M_compare_52 : decode b_M_compare 52 = .ok (.iload 4, 2) := by decide +kernel
theorem d_M_compare_54 : decode b_M_compare 54 = .ok (.iadd, 1) := by decide +kernel
theorem d_M_compare_55 : decode b_M_compare 55 = .ok (.baload, 1) := by decide +kernel
theorem d_M_compare_56 : decode b_M_compare 56 = .ok (.istore 5, 2) := by decide +kernel
theorem d_M_compare_58 : decode b_M_compare 58 = .ok (.aload_n 0, 1) := by decide +kernel
theorem d_M_compare_59 : decode b_M_compare 59 = .ok (.getfield 7, 3) := by decide +kernel
theorem d_M_compare_62 : decode b_M_compare 62 = .ok (.sipush 128, 3) := by decide +kernel
theorem d_M_compare_65 : decode b_M_compare 65 = .ok (.iload_n 2, 1) := by decide +kernel
theorem d_M_compare_66 : decode b_M_compare 66 = .ok (.imul, 1) := by decide +kernel
theorem d_M_compare_67 : decode b_M_compare 67 = .ok (.iload 4, 2) := by decide +kernel
theorem d_M_compare_69 : decode b_M_compare 69 = .ok (.iadd, 1) := by decide +kernel
theorem d_M_compare_70 : decode b_M_compare 70 = .ok (.baload, 1) := by decide +kernel
theorem d_M_compare_71 : decode b_M_compare 71 = .ok (.istore 6, 2) := by decide +kernel
theorem d_M_compare_73 : decode b_M_compare 73 = .ok (.iload 5, 2) := by decide +kernel
theorem d_M_compare_75 : decode b_M_compare 75 = .ok (.iload 6, 2) := by decide +kernel
theorem d_M_compare_77 : decode b_M_compare 77 = .ok (.if_icmp .ne 7, 3) := by decide +kernel
theorem d_M_compare_80 : decode b_M_compare 80 = .ok (.iload_n 3, 1) := by decide +kernel
theorem d_M_compare_81 : decode b_M_compare 81 = .ok (.goto 13, 3) := by decide +kernel
theorem d_M_compare_84 : decode b_M_compare 84 = .ok (.iload 5, 2) := by decide +kernel
theorem d_M_compare_86 : decode b_M_compare 86 = .ok (.ifCond .eq 7, 3) := by decide +kernel
theorem d_M_compare_89 : decode b_M_compare 89 = .ok (.iconst 1, 1) := by decide +kernel
theorem d_M_compare_90 : decode b_M_compare 90 = .ok (.goto 4, 3) := by decide +kernel
theorem d_M_compare_93 : decode b_M_compare 93 = .ok (.iconst (-1), 1) := by decide +kernel
theorem d_M_compare_94 : decode b_M_compare 94 = .ok (.istore_n 3, 1) := by decide +kernel
theorem d_M_compare_95 : decode b_M_compare 95 = .ok (.iinc 4 1, 3) := by decide +kernel
theorem d_M_compare_98 : decode b_M_compare 98 = .ok (.goto (-70), 3) := by decide +kernel
theorem d_M_compare_101 : decode b_M_compare 101 = .ok (.iload_n 3, 1) := by decide +kernel
theorem d_M_compare_102 : decode b_M_compare 102 = .ok (.ireturn, 1) := by decide +kernel
theorem d_M_digits_0 : decode b_M_digits 0 = .ok (.aload_n 0, 1) := by decide +kernel
theorem d_M_digits_1 : decode b_M_digits 1 = .ok (.iload_n 1, 1) := by decide +kernel
theorem d_M_digits_2 : decode b_M_digits 2 = .ok (.invokestatic 30, 3) := by decide +kernel
theorem d_M_digits_5 : decode b_M_digits 5 = .ok (.ifCond .eq 7, 3) := by decide +kernel
theorem d_M_digits_8 : decode b_M_digits 8 = .ok (.iconst 1, 1) := by decide +kernel
theorem d_M_digits_9 : decode b_M_digits 9 = .ok (.goto 4, 3) := by decide +kernel
theorem d_M_digits_12 : decode b_M_digits 12 = .ok (.iconst 0, 1) := by decide +kernel
theorem d_M_digits_13 : decode b_M_digits 13 = .ok (.putfield 26, 3) := by decide +kernel
theorem d_M_digits_16 : decode b_M_digits 16 = .ok (.aload_n 0, 1) := by decide +kernel
theorem d_M_digits_17 : decode b_M_digits 17 = .ok (.getfield 26, 3) := by decide +kernel
theorem d_M_digits_20 : decode b_M_digits 20 = .ok (.ifCond .le 5, 3) := by decide +kernel
theorem d_M_digits_23 : decode b_M_digits 23 = .ok (.iconst 0, 1) := by decide +kernel
theorem d_M_digits_24 : decode b_M_digits 24 = .ok (.ireturn, 1) := by decide +kernel
theorem d_M_digits_25 : decode b_M_digits 25 = .ok (.aload_n 0, 1) := by decide +kernel
theorem d_M_digits_26 : decode b_M_digits 26 = .ok (.iload_n 1, 1) := by decide +kernel
theorem d_M_digits_27 : decode b_M_digits 27 = .ok (.bipush 8, 2) := by decide +kernel
theorem d_M_digits_29 : decode b_M_digits 29 = .ok (.invokevirtual 36, 3) := by decide +kernel
theorem d_M_digits_32 : decode b_M_digits 32 = .ok (.aload_n 0, 1) := by decide +kernel
theorem d_M_digits_33 : decode b_M_digits 33 = .ok (.iconst 0, 1) := by decide +kernel
theorem d_M_digits_34 : decode b_M_digits 34 = .ok (.putfield 71, 3) := by decide +kernel
theorem d_M_digits_37 : decode b_M_digits 37 = .ok (.iconst 1, 1) := by decide +kernel
theorem d_M_digits_38 : decode b_M_digits 38 = .ok (.istore_n 2, 1) := by decide +kernel
theorem d_M_digits_39 : decode b_M_digits 39 = .ok (.iload_n 2, 1) := by decide +kernel
theorem d_M_digits_40 : decode b_M_digits 40 = .ok (.ifCond .eq 152, 3) := by decide +kernel
theorem d_M_digits_43 : decode b_M_digits 43 = .ok (.iconst 0, 1) := by decide +kernel
theorem d_M_digits_44 : decode b_M_digits 44 = .ok (.istore_n 3, 1) := by decide +kernel
theorem d_M_digits_45 : decode b_M_digits 45 = .ok (.iconst 0, 1) := by decide +kernel
theorem d_M_digits_46 : decode b_M_digits 46 = .ok (.istore_n 2, 1) := by decide +kernel
theorem d_M_digits_47 : decode b_M_digits 47 = .ok (.bipush 127, 2) := by decide +kernel
theorem d_M_digits_49 : decode b_M_digits 49 = .ok (.istore 4, 2) := by decide +kernel
theorem d_M_digits_51 : decode b_M_digits 51 = .ok (.iload 4, 2) := by decide +kernel
theorem d_M_digits_53 : decode b_M_digits 53 = .ok (.ifCond .lt 86, 3) := by decide +kernel
theorem d_M_digits_56 : decode b_M_digits 56 = .ok (.iconst 2, 1) := by decide +kernel
theorem d_M_digits_57 : decode b_M_digits 57 = .ok (.iload_n 3, 1) := by decide +kernel
theorem d_M_digits_58 : decode b_M_digits 58 = .ok (.imul, 1) := by decide +kernel
theorem d_M_digits_59 : decode b_M_digits 59 = .ok (.aload_n 0, 1) := by decide +kernel
theorem d_M_digits_60 : decode b_M_digits 60 = .ok (.getfield 7, 3) := by decide +kernel
theorem d_M_digits_63 : decode b_M_digits 63 = .ok (.sipush 1024, 3) := by decide +kernel
theorem d_M_digits_66 : decode b_M_digits 66 = .ok (.iload 4, 2) := by decide +kernel
theorem d_M_digits_68 : decode b_M_digits 68 = .ok (.iadd, 1) := by decide +kernel
theorem d_M_digits_69 : decode b_M_digits 69 = .ok (.baload, 1) := by decide +kernel
theorem d_M_digits_70 : decode b_M_digits 70 = .ok (.ifCond .eq 7, 3) := by decide +kernel
theorem d_M_digits_73 : decode b_M_digits 73 = .ok (.iconst 1, 1) := by decide +kernel
theorem d_M_digits_74 : decode b_M_digits 74 = .ok (.goto 4, 3) := by decide +kernel
theorem d_M_digits_77 : decode b_M_digits 77 = .ok (.iconst 0, 1) := by decide +kernel
theorem d_M_digits_78 : decode b_M_digits 78 = .ok (.iadd, 1) := by decide +kernel
theorem d_M_digits_79 : decode b_M_digits 79 = .ok (.istore_n 3, 1) := by decide +kernel
theorem d_M_digits_80 : decode b_M_digits 80 = .ok (.aload_n 0, 1) := by decide +kernel
theorem d_M_digits_81 : decode b_M_digits 81 = .ok (.getfield 7, 3) := by decide +kernel
theorem d_M_digits_84 : decode b_M_digits 84 = .ok (.sipush 1024, 3) := by decide +kernel
theorem d_M_digits_87 : decode b_M_digits 87 = .ok (.iload 4, 2) := by decide +kernel
theorem d_M_digits_89 : decode b_M_digits 89 = .ok (.iadd, 1) := by decide +kernel
theorem d_M_digits_90 : decode b_M_digits 90 = .ok (.iload_n 3, 1) := by decide +kernel
theorem d_M_digits_91 : decode b_M_digits 91 = .ok (.bipush 10, 2) := by decide +kernel
theorem d_M_digits_93 : decode b_M_digits 93 = .ok (.if_icmp .lt 7, 3) := by decide +kernel
theorem d_M_digits_96 : decode b_M_digits 96 = .ok (.iconst 1, 1) := by decide +kernel
theorem d_M_digits_97 : decode b_M_digits 97 = .ok (.goto 4, 3) := by decide +kernel
theorem d_M_digits_100 : decode b_M_digits 100 = .ok (.iconst 0, 1) := by decide +kernel
theorem d_M_digits_101 : decode b_M_digits 101 = .ok (.bastore, 1) := by decide +kernel
theorem d_M_digits_102 : decode b_M_digits 102 = .ok (.iload_n 2, 1) := by decide +kernel
theorem d_M_digits_103 : decode b_M_digits 103 = .ok (.ifCond .ne 9, 3) := by decide +kernel
theorem d_M_digits_106 : decode b_M_digits 106 = .ok (.iload_n 3, 1) := by decide +kernel
theorem d_M_digits_107 : decode b_M_digits 107 = .ok (.bipush 10, 2) := by decide +kernel
theorem d_M_digits_109 : decode b_M_digits 109 = .ok (.if_icmp .lt 7, 3) := by decide +kernel
theorem d_M_digits_112 : decode b_M_digits 112 = .ok (.iconst 1, 1) := by decide +kernel
theorem d_M_digits_113 : decode b_M_digits 113 = .ok (.goto 4, 3) := by decide +kernel
theorem d_M_digits_116 : decode b_M_digits 116 = .ok (.iconst 0, 1) := by decide +kernel
theorem d_M_digits_117 : decode b_M_digits 117 = .ok (.istore_n 2, 1) := by decide +kernel
theorem d_M_digits_118 : decode b_M_digits 118 = .ok (.iload_n 3, 1) := by decide +kernel
theorem d_M_digits_119 : decode b_M_digits 119 = .ok (.bipush 10, 2) := by decide +kernel
theorem d_M_digits_121 : decode b_M_digits 121 = .ok (.if_icmp .lt 10, 3) := by decide +kernel
theorem d_M_digits_124 : decode b_M_digits 124 = .ok (.iload_n 3, 1) := by decide +kernel
theorem d_M_digits_125 : decode b_M_digits 125 = .ok (.bipush 10, 2) := by decide +kernel
theorem d_M_digits_127 : decode b_M_digits 127 = .ok (.isub, 1) := by decide +kernel
theorem d_M_digits_128 : decode b_M_digits 128 = .ok (.goto 4, 3) := by decide +kernel
theorem d_M_digits_131 : decode b_M_digits 131 = .ok (.iload_n 3, 1) := by decide +kernel
theorem d_M_digits_132 : decode b_M_digits 132 = .ok (.istore_n 3, 1) := by decide +kernel
theorem d_M_digits_133 : decode b_M_digits 133 = .ok (.iinc 4 (-1), 3) := by decide +kernel
theorem d_M_digits_136 : decode b_M_digits 136 = .ok (.goto (-85), 3) := by decide +kernel
theorem d_M_digits_139 : decode b_M_digits 139 = .ok (.aload_n 0, 1) := by decide +kernel
theorem d_M_digits_140 : decode b_M_digits 140 = .ok (.getfield 71, 3) := by decide +kernel
theorem d_M_digits_143 : decode b_M_digits 143 = .ok (.istore 4, 2) := by decide +kernel
theorem d_M_digits_145 : decode b_M_digits 145 = .ok (.iload 4, 2) := by decide +kernel
theorem d_M_digits_147 : decode b_M_digits 147 = .ok (.ifCond .le 25, 3) := by decide +kernel
theorem d_M_digits_150 : decode b_M_digits 150 = .ok (.aload_n 0, 1) := by decide +kernel
theorem d_M_digits_151 : decode b_M_digits 151 = .ok (.getfield 22, 3) := by decide +kernel
theorem d_M_digits_154 : decode b_M_digits 154 = .ok (.iload 4, 2) := by decide +kernel
theorem d_M_digits_156 : decode b_M_digits 156 = .ok (.aload_n 0, 1) := by decide +kernel
theorem d_M_digits_157 : decode b_M_digits 157 = .ok (.getfield 22, 3) := by decide +kernel
theorem d_M_digits_160 : decode b_M_digits 160 = .ok (.iload 4, 2) := by decide +kernel
theorem d_M_digits_162 : decode b_M_digits 162 = .ok (.iconst 1, 1) := by decide +kernel
theorem d_M_digits_163 : decode b_M_digits 163 = .ok (.isub, 1) := by decide +kernel
theorem d_M_digits_164 : decode b_M_digits 164 = .ok (.iaload, 1) := by decide +kernel
theorem d_M_digits_165 : decode b_M_digits 165 = .ok (.iastore, 1) := by decide +kernel
theorem d_M_digits_166 : decode b_M_digits 166 = .ok (.iinc 4 (-1), 3) := by decide +kernel
theorem d_M_digits_169 : decode b_M_digits 169 = .ok (.goto (-24), 3) := by decide +kernel
theorem d_M_digits_172 : decode b_M_digits 172 = .ok (.aload_n 0, 1) := by decide +kernel
theorem d_M_digits_173 : decode b_M_digits 173 = .ok (.getfield 22, 3) := by decide +kernel
theorem d_M_digits_176 : decode b_M_digits 176 = .ok (.iconst 0, 1) := by decide +kernel
theorem d_M_digits_177 : decode b_M_digits 177 = .ok (.iload_n 3, 1) := by decide +kernel
theorem d_M_digits_178 : decode b_M_digits 178 = .ok (.iastore, 1) := by decide +kernel
theorem d_M_digits_179 : decode b_M_digits 179 = .ok (.aload_n 0, 1) := by decide +kernel
theorem d_M_digits_180 : decode b_M_digits 180 = .ok (.dup, 1) := by decide +kernel
theorem d_M_digits_181 : decode b_M_digits 181 = .ok (.getfield 71, 3) := by decide +kernel
theorem d_M_digits_184 : decode b_M_digits 184 = .ok (.iconst 1, 1) := by decide +kernel
theorem d_M_digits_185 : decode b_M_digits 185 = .ok (.iadd, 1) := by decide +kernel
theorem d_M_digits_186 : decode b_M_digits 186 = .ok (.putfield 71, 3) := by decide +kernel
theorem d_M_digits_189 : decode b_M_digits 189 = .ok (.goto (-150), 3) := by decide +kernel
theorem d_M_digits_192 : decode b_M_digits 192 = .ok (.aload_n 0, 1) := by decide +kernel
theorem d_M_digits_193 : decode b_M_digits 193 = .ok (.getfield 71, 3) := by decide +kernel
theorem d_M_digits_196 : decode b_M_digits 196 = .ok (.ireturn, 1) := by decide +kernel
theorem d_M_digit_0 : decode b_M_digit 0 = .ok (.aload_n 0, 1) := by decide +kernel
theorem d_M_digit_1 : decode b_M_digit 1 = .ok (.iconst 0, 1) := by decide +kernel
theorem d_M_digit_2 : decode b_M_digit 2 = .ok (.putfield 26, 3) := by decide +kernel
theorem d_M_digit_5 : decode b_M_digit 5 = .ok (.iload_n 1, 1) := by decide +kernel
theorem d_M_digit_6 : decode b_M_digit 6 = .ok (.ifCond .lt 11, 3) := by decide +kernel
theorem d_M_digit_9 : decode b_M_digit 9 = .ok (.iload_n 1, 1) := by decide +kernel
theorem d_M_digit_10 : decode b_M_digit 10 = .ok (.aload_n 0, 1) := by decide +kernel
theorem d_M_digit_11 : decode b_M_digit 11 = .ok (.getfield 71, 3) := by decide +kernel
theorem d_M_digit_14 : decode b_M_digit 14 = .ok (.if_icmp .lt 7, 3) := by decide +kernel
theorem d_M_digit_17 : decode b_M_digit 17 = .ok (.iconst (-1), 1) := by decide +kernel
theorem d_M_digit_18 : decode b_M_digit 18 = .ok (.goto 9, 3) := by decide +kernel
theorem d_M_digit_21 : decode b_M_digit 21 = .ok (.aload_n 0, 1) := by decide +kernel
theorem d_M_digit_22 : decode b_M_digit 22 = .ok (.getfield 22, 3) := by decide +kernel
theorem d_M_digit_25 : decode b_M_digit 25 = .ok (.iload_n 1, 1) := by decide +kernel
theorem d_M_digit_26 : decode b_M_digit 26 = .ok (.iaload, 1) := by decide +kernel
theorem d_M_digit_27 : decode b_M_digit 27 = .ok (.ireturn, 1) := by decide +kernel
theorem d_M_next_0 : decode b_M_next 0 = .ok (.aload_n 0, 1) := by decide +kernel
theorem d_M_next_1 : decode b_M_next 1 = .ok (.iload_n 1, 1) := by decide +kernel
theorem d_M_next_2 : decode b_M_next 2 = .ok (.invokestatic 30, 3) := by decide +kernel
theorem d_M_next_5 : decode b_M_next 5 = .ok (.ifCond .eq 7, 3) := by decide +kernel
theorem d_M_next_8 : decode b_M_next 8 = .ok (.iconst 1, 1) := by decide +kernel
theorem d_M_next_9 : decode b_M_next 9 = .ok (.goto 18, 3) := by decide +kernel
theorem d_M_next_12 : decode b_M_next 12 = .ok (.iload_n 2, 1) := by decide +kernel
theorem d_M_next_13 : decode b_M_next 13 = .ok (.ifCond .lt 9, 3) := by decide +kernel
theorem d_M_next_16 : decode b_M_next 16 = .ok (.iload_n 2, 1) := by decide +kernel
theorem d_M_next_17 : decode b_M_next 17 = .ok (.bipush 9, 2) := by decide +kernel
theorem d_M_next_19 : decode b_M_next 19 = .ok (.if_icmp .le 7, 3) := by decide +kernel
theorem d_M_next_22 : decode b_M_next 22 = .ok (.iconst 2, 1) := by decide +kernel
theorem d_M_next_23 : decode b_M_next 23 = .ok (.goto 4, 3) := by decide +kernel
theorem d_M_next_26 : decode b_M_next 26 = .ok (.iconst 0, 1) := by decide +kernel
theorem d_M_next_27 : decode b_M_next 27 = .ok (.putfield 26, 3) := by decide +kernel
theorem d_M_next_30 : decode b_M_next 30 = .ok (.aload_n 0, 1) := by decide +kernel
theorem d_M_next_31 : decode b_M_next 31 = .ok (.getfield 26, 3) := by decide +kernel
theorem d_M_next_34 : decode b_M_next 34 = .ok (.ifCond .le 5, 3) := by decide +kernel
theorem d_M_next_37 : decode b_M_next 37 = .ok (.iconst 0, 1) := by decide +kernel
theorem d_M_next_38 : decode b_M_next 38 = .ok (.ireturn, 1) := by decide +kernel
theorem d_M_next_39 : decode b_M_next 39 = .ok (.iload_n 2, 1) := by decide +kernel
theorem d_M_next_40 : decode b_M_next 40 = .ok (.istore_n 3, 1) := by decide +kernel
theorem d_M_next_41 : decode b_M_next 41 = .ok (.iconst 0, 1) := by decide +kernel
theorem d_M_next_42 : decode b_M_next 42 = .ok (.istore 4, 2) := by decide +kernel
theorem d_M_next_44 : decode b_M_next 44 = .ok (.iload 4, 2) := by decide +kernel
theorem d_M_next_46 : decode b_M_next 46 = .ok (.sipush 128, 3) := by decide +kernel
theorem d_M_next_49 : decode b_M_next 49 = .ok (.if_icmp .ge 57, 3) := by decide +kernel
theorem d_M_next_52 : decode b_M_next 52 = .ok (.iload_n 3, 1) := by decide +kernel
theorem d_M_next_53 : decode b_M_next 53 = .ok (.aload_n 0, 1) := by decide +kernel
theorem d_M_next_54 : decode b_M_next 54 = .ok (.getfield 7, 3) := by decide +kernel
theorem d_M_next_57 : decode b_M_next 57 = .ok (.sipush 128, 3) := by decide +kernel
theorem d_M_next_60 : decode b_M_next 60 = .ok (.iload_n 1, 1) := by decide +kernel
theorem d_M_next_61 : decode b_M_next 61 = .ok (.imul, 1) := by decide +kernel
theorem d_M_next_62 : decode b_M_next 62 = .ok (.iload 4, 2) := by decide +kernel
theorem d_M_next_64 : decode b_M_next 64 = .ok (.iadd, 1) := by decide +kernel
theorem d_M_next_65 : decode b_M_next 65 = .ok (.baload, 1) := by decide +kernel
theorem d_M_next_66 : decode b_M_next 66 = .ok (.ifCond .eq 8, 3) := by decide +kernel
theorem d_M_next_69 : decode b_M_next 69 = .ok (.bipush 10, 2) := by decide +kernel
theorem d_M_next_71 : decode b_M_next 71 = .ok (.goto 4, 3) := by decide +kernel
theorem d_M_next_74 : decode b_M_next 74 = .ok (.iconst 0, 1) := by decide +kernel
theorem d_M_next_75 : decode b_M_next 75 = .ok (.iadd, 1) := by decide +kernel
theorem d_M_next_76 : decode b_M_next 76 = .ok (.istore_n 3, 1) := by decide +kernel
theorem d_M_next_77 : decode b_M_next 77 = .ok (.aload_n 0, 1) := by decide +kernel
theorem d_M_next_78 : decode b_M_next 78 = .ok (.getfield 16, 3) := by decide +kernel
theorem d_M_next_81 : decode b_M_next 81 = .ok (.iload 4, 2) := by decide +kernel
theorem d_M_next_83 : decode b_M_next 83 = .ok (.iload_n 3, 1) := by decide +kernel
theorem d_M_next_84 : decode b_M_next 84 = .ok (.iconst 2, 1) := by decide +kernel
theorem d_M_next_85 : decode b_M_next 85 = .ok (.irem, 1) := by decide +kernel
theorem d_M_next_86 : decode b_M_next 86 = .ok (.iconst 1, 1) := by decide +kernel
theorem d_M_next_87 : decode b_M_next 87 = .ok (.if_icmp .ne 7, 3) := by decide +kernel
theorem d_M_next_90 : decode b_M_next 90 = .ok (.iconst 1, 1) := by decide +kernel
theorem d_M_next_91 : decode b_M_next 91 = .ok (.goto 4, 3) := by decide +kernel
theorem d_M_next_94 : decode b_M_next 94 = .ok (.iconst 0, 1) := by decide +kernel
theorem d_M_next_95 : decode b_M_next 95 = .ok (.bastore, 1) := by decide +kernel
theorem d_M_next_96 : decode b_M_next 96 = .ok (.iload_n 3, 1) := by decide +kernel
theorem d_M_next_97 : decode b_M_next 97 = .ok (.iconst 2, 1) := by decide +kernel
theorem d_M_next_98 : decode b_M_next 98 = .ok (.idiv, 1) := by decide +kernel
theorem d_M_next_99 : decode b_M_next 99 = .ok (.istore_n 3, 1) := by decide +kernel
theorem d_M_next_100 : decode b_M_next 100 = .ok (.iinc 4 1, 3) := by decide +kernel
theorem d_M_next_103 : decode b_M_next 103 = .ok (.goto (-59), 3) := by decide +kernel
theorem d_M_next_106 : decode b_M_next 106 = .ok (.iload_n 3, 1) := by decide +kernel
theorem d_M_next_107 : decode b_M_next 107 = .ok (.ifCond .le 5, 3) := by decide +kernel
theorem d_M_next_110 : decode b_M_next 110 = .ok (.iconst 0, 1) := by decide +kernel
theorem d_M_next_111 : decode b_M_next 111 = .ok (.ireturn, 1) := by decide +kernel
theorem d_M_next_112 : decode b_M_next 112 = .ok (.aload_n 0, 1) := by decide +kernel
theorem d_M_next_113 : decode b_M_next 113 = .ok (.aload_n 0, 1) := by decide +kernel
theorem d_M_next_114 : decode b_M_next 114 = .ok (.getfield 16, 3) := by decide +kernel
theorem d_M_next_117 : decode b_M_next 117 = .ok (.iconst 0, 1) := by decide +kernel
theorem d_M_next_118 : decode b_M_next 118 = .ok (.iload_n 1, 1) := by decide +kernel
theorem d_M_next_119 : decode b_M_next 119 = .ok (.invokevirtual 47, 3) := by decide +kernel
theorem d_M_next_122 : decode b_M_next 122 = .ok (.iconst 1, 1) := by decide +kernel
theorem d_M_next_123 : decode b_M_next 123 = .ok (.ireturn, 1) := by decide +kernel
