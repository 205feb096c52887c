theorem d_Gen_init_0 : decode b_Gen_init 0 = .ok (.aload_n 0, 1) := by decide +kernel
theorem d_Gen_init_1 : decode b_Gen_init 1 = .ok (.invokespecial 1, 3) := by decide +kernel
theorem d_Gen_init_4 : decode b_Gen_init 4 = .ok (.aload_n 0, 1) := by decide +kernel
theorem d_Gen_init_5 : decode b_Gen_init 5 = .ok (.iload_n 1, 1) := by decide +kernel
theorem d_Gen_init_6 : decode b_Gen_init 6 = .ok (.ldc 9, 2) := by decide +kernel
theorem d_Gen_init_8 : decode b_Gen_init 8 = .ok (.iadd, 1) := by decide +kernel
theorem d_Gen_init_9 : decode b_Gen_init 9 = .ok (.invokestatic 10, 3) := by decide +kernel
theorem d_Gen_init_12 : decode b_Gen_init 12 = .ok (.putfield 14, 3) := by decide +kernel
theorem d_Gen_init_15 : decode b_Gen_init 15 = .ok (.aload_n 0, 1) := by decide +kernel
theorem d_Gen_init_16 : decode b_Gen_init 16 = .ok (.iload_n 1, 1) := by decide +kernel
theorem d_Gen_init_17 : decode b_Gen_init 17 = .ok (.ldc 18, 2) := by decide +kernel
theorem d_Gen_init_19 : decode b_Gen_init 19 = .ok (.iadd, 1) := by decide +kernel
theorem d_Gen_init_20 : decode b_Gen_init 20 = .ok (.invokestatic 10, 3) := by decide +kernel
theorem d_Gen_init_23 : decode b_Gen_init 23 = .ok (.putfield 19, 3) := by decide +kernel
theorem d_Gen_init_26 : decode b_Gen_init 26 = .ok (.aload_n 0, 1) := by decide +kernel
theorem d_Gen_init_27 : decode b_Gen_init 27 = .ok (.iload_n 1, 1) := by decide +kernel
theorem d_Gen_init_28 : decode b_Gen_init 28 = .ok (.ldc 22, 2) := by decide +kernel
theorem d_Gen_init_30 : decode b_Gen_init 30 = .ok (.iadd, 1) := by decide +kernel
theorem d_Gen_init_31 : decode b_Gen_init 31 = .ok (.invokestatic 10, 3) := by decide +kernel
theorem d_Gen_init_34 : decode b_Gen_init 34 = .ok (.putfield 23, 3) := by decide +kernel
theorem d_Gen_init_37 : decode b_Gen_init 37 = .ok (.aload_n 0, 1) := by decide +kernel
theorem d_Gen_init_38 : decode b_Gen_init 38 = .ok (.iload_n 1, 1) := by decide +kernel
theorem d_Gen_init_39 : decode b_Gen_init 39 = .ok (.ldc 26, 2) := by decide +kernel
theorem d_Gen_init_41 : decode b_Gen_init 41 = .ok (.iadd, 1) := by decide +kernel
theorem d_Gen_init_42 : decode b_Gen_init 42 = .ok (.invokestatic 10, 3) := by decide +kernel
theorem d_Gen_init_45 : decode b_Gen_init 45 = .ok (.putfield 27, 3) := by decide +kernel
theorem d_Gen_init_48 : decode b_Gen_init 48 = .ok (.aload_n 0, 1) := by decide +kernel
theorem d_Gen_init_49 : decode b_Gen_init 49 = .ok (.getfield 14, 3) := by decide +kernel
theorem d_Gen_init_52 : decode b_Gen_init 52 = .ok (.aload_n 0, 1) := by decide +kernel
theorem d_Gen_init_53 : decode b_Gen_init 53 = .ok (.getfield 19, 3) := by decide +kernel
theorem d_Gen_init_56 : decode b_Gen_init 56 = .ok (.ior, 1) := by decide +kernel
theorem d_Gen_init_57 : decode b_Gen_init 57 = .ok (.aload_n 0, 1) := by decide +kernel
theorem d_Gen_init_58 : decode b_Gen_init 58 = .ok (.getfield 23, 3) := by decide +kernel
theorem d_Gen_init_61 : decode b_Gen_init 61 = .ok (.ior, 1) := by decide +kernel
theorem d_Gen_init_62 : decode b_Gen_init 62 = .ok (.aload_n 0, 1) := by decide +kernel
theorem d_Gen_init_63 : decode b_Gen_init 63 = .ok (.getfield 27, 3) := by decide +kernel
theorem d_Gen_init_66 : decode b_Gen_init 66 = .ok (.ior, 1) := by decide +kernel
theorem d_Gen_init_67 : decode b_Gen_init 67 = .ok (.ifCond .ne 8, 3) := by decide +kernel
theorem d_Gen_init_70 : decode b_Gen_init 70 = .ok (.aload_n 0, 1) := by decide +kernel
theorem d_Gen_init_71 : decode b_Gen_init 71 = .ok (.iconst 1, 1) := by decide +kernel
theorem d_Gen_init_72 : decode b_Gen_init 72 = .ok (.putfield 14, 3) := by decide +kernel
theorem d_Gen_init_75 : decode b_Gen_init 75 = .ok (.return_, 1) := by decide +kernel
theorem d_Gen_mixed_0 : decode b_Gen_mixed 0 = .ok (.iload_n 0, 1) := by decide +kernel
theorem d_Gen_mixed_1 : decode b_Gen_mixed 1 = .ok (.istore_n 1, 1) := by decide +kernel
theorem d_Gen_mixed_2 : decode b_Gen_mixed 2 = .ok (.iload_n 1, 1) := by decide +kernel
theorem d_Gen_mixed_3 : decode b_Gen_mixed 3 = .ok (.iload_n 1, 1) := by decide +kernel
theorem d_Gen_mixed_4 : decode b_Gen_mixed 4 = .ok (.bipush 16, 2) := by decide +kernel
theorem d_Gen_mixed_6 : decode b_Gen_mixed 6 = .ok (.iushr, 1) := by decide +kernel
theorem d_Gen_mixed_7 : decode b_Gen_mixed 7 = .ok (.ixor, 1) := by decide +kernel
theorem d_Gen_mixed_8 : decode b_Gen_mixed 8 = .ok (.istore_n 1, 1) := by decide +kernel
theorem d_Gen_mixed_9 : decode b_Gen_mixed 9 = .ok (.iload_n 1, 1) := by decide +kernel
theorem d_Gen_mixed_10 : decode b_Gen_mixed 10 = .ok (.ldc 30, 2) := by decide +kernel
theorem d_Gen_mixed_12 : decode b_Gen_mixed 12 = .ok (.imul, 1) := by decide +kernel
theorem d_Gen_mixed_13 : decode b_Gen_mixed 13 = .ok (.istore_n 1, 1) := by decide +kernel
theorem d_Gen_mixed_14 : decode b_Gen_mixed 14 = .ok (.iload_n 1, 1) := by decide +kernel
theorem d_Gen_mixed_15 : decode b_Gen_mixed 15 = .ok (.iload_n 1, 1) := by decide +kernel
theorem d_Gen_mixed_16 : decode b_Gen_mixed 16 = .ok (.bipush 13, 2) := by decide +kernel
theorem d_Gen_mixed_18 : decode b_Gen_mixed 18 = .ok (.iushr, 1) := by decide +kernel
theorem d_Gen_mixed_19 : decode b_Gen_mixed 19 = .ok (.ixor, 1) := by decide +kernel
theorem d_Gen_mixed_20 : decode b_Gen_mixed 20 = .ok (.istore_n 1, 1) := by decide +kernel
theorem d_Gen_mixed_21 : decode b_Gen_mixed 21 = .ok (.iload_n 1, 1) := by decide +kernel
theorem d_Gen_mixed_22 : decode b_Gen_mixed 22 = .ok (.ldc 31, 2) := by decide +kernel
theorem d_Gen_mixed_24 : decode b_Gen_mixed 24 = .ok (.imul, 1) := by decide +kernel
theorem d_Gen_mixed_25 : decode b_Gen_mixed 25 = .ok (.istore_n 1, 1) := by decide +kernel
theorem d_Gen_mixed_26 : decode b_Gen_mixed 26 = .ok (.iload_n 1, 1) := by decide +kernel
theorem d_Gen_mixed_27 : decode b_Gen_mixed 27 = .ok (.iload_n 1, 1) := by decide +kernel
theorem d_Gen_mixed_28 : decode b_Gen_mixed 28 = .ok (.bipush 16, 2) := by decide +kernel
theorem d_Gen_mixed_30 : decode b_Gen_mixed 30 = .ok (.iushr, 1) := by decide +kernel
theorem d_Gen_mixed_31 : decode b_Gen_mixed 31 = .ok (.ixor, 1) := by decide +kernel
theorem d_Gen_mixed_32 : decode b_Gen_mixed 32 = .ok (.istore_n 1, 1) := by decide +kernel
theorem d_Gen_mixed_33 : decode b_Gen_mixed 33 = .ok (.iload_n 1, 1) := by decide +kernel
theorem d_Gen_mixed_34 : decode b_Gen_mixed 34 = .ok (.ireturn, 1) := by decide +kernel
theorem d_Gen_draw_0 : decode b_Gen_draw 0 = .ok (.aload_n 0, 1) := by decide +kernel
theorem d_Gen_draw_1 : decode b_Gen_draw 1 = .ok (.getfield 19, 3) := by decide +kernel
theorem d_Gen_draw_4 : decode b_Gen_draw 4 = .ok (.iconst 5, 1) := by decide +kernel
theorem d_Gen_draw_5 : decode b_Gen_draw 5 = .ok (.imul, 1) := by decide +kernel
theorem d_Gen_draw_6 : decode b_Gen_draw 6 = .ok (.bipush 7, 2) := by decide +kernel
theorem d_Gen_draw_8 : decode b_Gen_draw 8 = .ok (.invokestatic 32, 3) := by decide +kernel
theorem d_Gen_draw_11 : decode b_Gen_draw 11 = .ok (.bipush 9, 2) := by decide +kernel
theorem d_Gen_draw_13 : decode b_Gen_draw 13 = .ok (.imul, 1) := by decide +kernel
theorem d_Gen_draw_14 : decode b_Gen_draw 14 = .ok (.istore_n 1, 1) := by decide +kernel
theorem d_Gen_draw_15 : decode b_Gen_draw 15 = .ok (.aload_n 0, 1) := by decide +kernel
theorem d_Gen_draw_16 : decode b_Gen_draw 16 = .ok (.getfield 19, 3) := by decide +kernel
theorem d_Gen_draw_19 : decode b_Gen_draw 19 = .ok (.bipush 9, 2) := by decide +kernel
theorem d_Gen_draw_21 : decode b_Gen_draw 21 = .ok (.ishl, 1) := by decide +kernel
theorem d_Gen_draw_22 : decode b_Gen_draw 22 = .ok (.istore_n 2, 1) := by decide +kernel
theorem d_Gen_draw_23 : decode b_Gen_draw 23 = .ok (.aload_n 0, 1) := by decide +kernel
theorem d_Gen_draw_24 : decode b_Gen_draw 24 = .ok (.dup, 1) := by decide +kernel
theorem d_Gen_draw_25 : decode b_Gen_draw 25 = .ok (.getfield 23, 3) := by decide +kernel
theorem d_Gen_draw_28 : decode b_Gen_draw 28 = .ok (.aload_n 0, 1) := by decide +kernel
theorem d_Gen_draw_29 : decode b_Gen_draw 29 = .ok (.getfield 14, 3) := by decide +kernel
theorem d_Gen_draw_32 : decode b_Gen_draw 32 = .ok (.ixor, 1) := by decide +kernel
theorem d_Gen_draw_33 : decode b_Gen_draw 33 = .ok (.putfield 23, 3) := by decide +kernel
theorem d_Gen_draw_36 : decode b_Gen_draw 36 = .ok (.aload_n 0, 1) := by decide +kernel
theorem d_Gen_draw_37 : decode b_Gen_draw 37 = .ok (.dup, 1) := by decide +kernel
theorem d_Gen_draw_38 : decode b_Gen_draw 38 = .ok (.getfield 27, 3) := by decide +kernel
theorem d_Gen_draw_41 : decode b_Gen_draw 41 = .ok (.aload_n 0, 1) := by decide +kernel
theorem d_Gen_draw_42 : decode b_Gen_draw 42 = .ok (.getfield 19, 3) := by decide +kernel
theorem d_Gen_draw_45 : decode b_Gen_draw 45 = .ok (.ixor, 1) := by decide +kernel
theorem d_Gen_draw_46 : decode b_Gen_draw 46 = .ok (.putfield 27, 3) := by decide +kernel
theorem d_Gen_draw_49 : decode b_Gen_draw 49 = .ok (.aload_n 0, 1) := by decide +kernel
theorem d_Gen_draw_50 : decode b_Gen_draw 50 = .ok (.dup, 1) := by decide +kernel
theorem d_Gen_draw_51 : decode b_Gen_draw 51 = .ok (.getfield 19, 3) := by decide +kernel
theorem d_Gen_draw_54 : decode b_Gen_draw 54 = .ok (.aload_n 0, 1) := by decide +kernel
theorem d_Gen_draw_55 : decode b_Gen_draw 55 = .ok (.getfield 23, 3) := by decide +kernel
theorem d_Gen_draw_58 : decode b_Gen_draw 58 = .ok (.ixor, 1) := by decide +kernel
theorem d_Gen_draw_59 : decode b_Gen_draw 59 = .ok (.putfield 19, 3) := by decide +kernel
theorem d_Gen_draw_62 : decode b_Gen_draw 62 = .ok (.aload_n 0, 1) := by decide +kernel
theorem d_Gen_draw_63 : decode b_Gen_draw 63 = .ok (.dup, 1) := by decide +kernel
theorem d_Gen_draw_64 : decode b_Gen_draw 64 = .ok (.getfield 14, 3) := by decide +kernel
theorem d_Gen_draw_67 : decode b_Gen_draw 67 = .ok (.aload_n 0, 1) := by decide +kernel
theorem d_Gen_draw_68 : decode b_Gen_draw 68 = .ok (.getfield 27, 3) := by decide +kernel
theorem d_Gen_draw_71 : decode b_Gen_draw 71 = .ok (.ixor, 1) := by decide +kernel
theorem d_Gen_draw_72 : decode b_Gen_draw 72 = .ok (.putfield 14, 3) := by decide +kernel
theorem d_Gen_draw_75 : decode b_Gen_draw 75 = .ok (.aload_n 0, 1) := by decide +kernel
theorem d_Gen_draw_76 : decode b_Gen_draw 76 = .ok (.dup, 1) := by decide +kernel
theorem d_Gen_draw_77 : decode b_Gen_draw 77 = .ok (.getfield 23, 3) := by decide +kernel
theorem d_Gen_draw_80 : decode b_Gen_draw 80 = .ok (.iload_n 2, 1) := by decide +kernel
theorem d_Gen_draw_81 : decode b_Gen_draw 81 = .ok (.ixor, 1) := by decide +kernel
theorem d_Gen_draw_82 : decode b_Gen_draw 82 = .ok (.putfield 23, 3) := by decide +kernel
theorem d_Gen_draw_85 : decode b_Gen_draw 85 = .ok (.aload_n 0, 1) := by decide +kernel
theorem d_Gen_draw_86 : decode b_Gen_draw 86 = .ok (.aload_n 0, 1) := by decide +kernel
theorem d_Gen_draw_87 : decode b_Gen_draw 87 = .ok (.getfield 27, 3) := by decide +kernel
theorem d_Gen_draw_90 : decode b_Gen_draw 90 = .ok (.bipush 11, 2) := by decide +kernel
theorem d_Gen_draw_92 : decode b_Gen_draw 92 = .ok (.invokestatic 32, 3) := by decide +kernel
theorem d_Gen_draw_95 : decode b_Gen_draw 95 = .ok (.putfield 27, 3) := by decide +kernel
theorem d_Gen_draw_98 : decode b_Gen_draw 98 = .ok (.iload_n 1, 1) := by decide +kernel
theorem d_Gen_draw_99 : decode b_Gen_draw 99 = .ok (.ireturn, 1) := by decide +kernel
theorem d_Table_init_0 : decode b_Table_init 0 = .ok (.aload_n 0, 1) := by decide +kernel
theorem d_Table_init_1 : decode b_Table_init 1 = .ok (.invokespecial 3, 3) := by decide +kernel
theorem d_Table_init_4 : decode b_Table_init 4 = .ok (.aload_n 0, 1) := by decide +kernel
theorem d_Table_init_5 : decode b_Table_init 5 = .ok (.iload_n 1, 1) := by decide +kernel
theorem d_Table_init_6 : decode b_Table_init 6 = .ok (.iconst 1, 1) := by decide +kernel
theorem d_Table_init_7 : decode b_Table_init 7 = .ok (.isub, 1) := by decide +kernel
theorem d_Table_init_8 : decode b_Table_init 8 = .ok (.putfield 9, 3) := by decide +kernel
theorem d_Table_init_11 : decode b_Table_init 11 = .ok (.aload_n 0, 1) := by decide +kernel
theorem d_Table_init_12 : decode b_Table_init 12 = .ok (.iload_n 1, 1) := by decide +kernel
theorem d_Table_init_13 : decode b_Table_init 13 = .ok (.newarray .int, 2) := by decide +kernel
theorem d_Table_init_15 : decode b_Table_init 15 = .ok (.putfield 15, 3) := by decide +kernel
theorem d_Table_init_18 : decode b_Table_init 18 = .ok (.aload_n 0, 1) := by decide +kernel
theorem d_Table_init_19 : decode b_Table_init 19 = .ok (.iload_n 1, 1) := by decide +kernel
theorem d_Table_init_20 : decode b_Table_init 20 = .ok (.newarray .int, 2) := by decide +kernel
theorem d_Table_init_22 : decode b_Table_init 22 = .ok (.putfield 19, 3) := by decide +kernel
theorem d_Table_init_25 : decode b_Table_init 25 = .ok (.aload_n 0, 1) := by decide +kernel
theorem d_Table_init_26 : decode b_Table_init 26 = .ok (.iload_n 1, 1) := by decide +kernel
theorem d_Table_init_27 : decode b_Table_init 27 = .ok (.newarray .int, 2) := by decide +kernel
theorem d_Table_init_29 : decode b_Table_init 29 = .ok (.putfield 22, 3) := by decide +kernel
theorem d_Table_init_32 : decode b_Table_init 32 = .ok (.aload_n 0, 1) := by decide +kernel
theorem d_Table_init_33 : decode b_Table_init 33 = .ok (.iconst 4, 1) := by decide +kernel
theorem d_Table_init_34 : decode b_Table_init 34 = .ok (.newarray .int, 2) := by decide +kernel
theorem d_Table_init_36 : decode b_Table_init 36 = .ok (.putfield 25, 3) := by decide +kernel
theorem d_Table_init_39 : decode b_Table_init 39 = .ok (.aload_n 0, 1) := by decide +kernel
theorem d_Table_init_40 : decode b_Table_init 40 = .ok (.iconst 0, 1) := by decide +kernel
theorem d_Table_init_41 : decode b_Table_init 41 = .ok (.putfield 28, 3) := by decide +kernel
theorem d_Table_init_44 : decode b_Table_init 44 = .ok (.return_, 1) := by decide +kernel
theorem d_Table_clear_0 : decode b_Table_clear 0 = .ok (.iconst 0, 1) := by decide +kernel
theorem d_Table_clear_1 : decode b_Table_clear 1 = .ok (.istore_n 1, 1) := by decide +kernel
theorem d_Table_clear_2 : decode b_Table_clear 2 = .ok (.iload_n 1, 1) := by decide +kernel
theorem d_Table_clear_3 : decode b_Table_clear 3 = .ok (.aload_n 0, 1) := by decide +kernel
theorem d_Table_clear_4 : decode b_Table_clear 4 = .ok (.getfield 9, 3) := by decide +kernel
theorem d_Table_clear_7 : decode b_Table_clear 7 = .ok (.if_icmp .gt 16, 3) := by decide +kernel
theorem d_Table_clear_10 : decode b_Table_clear 10 = .ok (.aload_n 0, 1) := by decide +kernel
theorem d_Table_clear_11 : decode b_Table_clear 11 = .ok (.getfield 15, 3) := by decide +kernel
theorem d_Table_clear_14 : decode b_Table_clear 14 = .ok (.iload_n 1, 1) := by decide +kernel
theorem d_Table_clear_15 : decode b_Table_clear 15 = .ok (.iconst 0, 1) := by decide +kernel
theorem d_Table_clear_16 : decode b_Table_clear 16 = .ok (.iastore, 1) := by decide +kernel
theorem d_Table_clear_17 : decode b_Table_clear 17 = .ok (.iinc 1 1, 3) := by decide +kernel
theorem d_Table_clear_20 : decode b_Table_clear 20 = .ok (.goto (-18), 3) := by decide +kernel
theorem d_Table_clear_23 : decode b_Table_clear 23 = .ok (.aload_n 0, 1) := by decide +kernel
theorem d_Table_clear_24 : decode b_Table_clear 24 = .ok (.iconst 0, 1) := by decide +kernel
theorem d_Table_clear_25 : decode b_Table_clear 25 = .ok (.putfield 28, 3) := by decide +kernel
theorem d_Table_clear_28 : decode b_Table_clear 28 = .ok (.return_, 1) := by decide +kernel
theorem d_Table_hashOf_0 : decode b_Table_hashOf 0 = .ok (.aload_n 0, 1) := by decide +kernel
theorem d_Table_hashOf_1 : decode b_Table_hashOf 1 = .ok (.getfield 25, 3) := by decide +kernel
theorem d_Table_hashOf_4 : decode b_Table_hashOf 4 = .ok (.iconst 0, 1) := by decide +kernel
theorem d_Table_hashOf_5 : decode b_Table_hashOf 5 = .ok (.iaload, 1) := by decide +kernel
theorem d_Table_hashOf_6 : decode b_Table_hashOf 6 = .ok (.aload_n 0, 1) := by decide +kernel
theorem d_Table_hashOf_7 : decode b_Table_hashOf 7 = .ok (.getfield 25, 3) := by decide +kernel
theorem d_Table_hashOf_10 : decode b_Table_hashOf 10 = .ok (.iconst 1, 1) := by decide +kernel
theorem d_Table_hashOf_11 : decode b_Table_hashOf 11 = .ok (.iaload, 1) := by decide +kernel
theorem d_Table_hashOf_12 : decode b_Table_hashOf 12 = .ok (.invokestatic 31, 3) := by decide +kernel
theorem d_Table_hashOf_15 : decode b_Table_hashOf 15 = .ok (.lstore_n 2, 1) := by decide +kernel
theorem d_Table_hashOf_16 : decode b_Table_hashOf 16 = .ok (.aload_n 0, 1) := by decide +kernel
theorem d_Table_hashOf_17 : decode b_Table_hashOf 17 = .ok (.getfield 25, 3) := by decide +kernel
theorem d_Table_hashOf_20 : decode b_Table_hashOf 20 = .ok (.iconst 2, 1) := by decide +kernel
theorem d_Table_hashOf_21 : decode b_Table_hashOf 21 = .ok (.iaload, 1) := by decide +kernel
theorem d_Table_hashOf_22 : decode b_Table_hashOf 22 = .ok (.aload_n 0, 1) := by decide +kernel
theorem d_Table_hashOf_23 : decode b_Table_hashOf 23 = .ok (.getfield 25, 3) := by decide +kernel
theorem d_Table_hashOf_26 : decode b_Table_hashOf 26 = .ok (.iconst 3, 1) := by decide +kernel
theorem d_Table_hashOf_27 : decode b_Table_hashOf 27 = .ok (.iaload, 1) := by decide +kernel
theorem d_Table_hashOf_28 : decode b_Table_hashOf 28 = .ok (.invokestatic 31, 3) := by decide +kernel
theorem d_Table_hashOf_31 : decode b_Table_hashOf 31 = .ok (.lstore 4, 2) := by decide +kernel
theorem d_Table_hashOf_33 : decode b_Table_hashOf 33 = .ok (.iload_n 1, 1) := by decide +kernel
theorem d_Table_hashOf_34 : decode b_Table_hashOf 34 = .ok (.ldc 35, 2) := by decide +kernel
theorem d_Table_hashOf_36 : decode b_Table_hashOf 36 = .ok (.invokestatic 31, 3) := by decide +kernel
theorem d_Table_hashOf_39 : decode b_Table_hashOf 39 = .ok (.lstore 6, 2) := by decide +kernel
theorem d_Table_hashOf_41 : decode b_Table_hashOf 41 = .ok (.lload_n 2, 1) := by decide +kernel
theorem d_Table_hashOf_42 : decode b_Table_hashOf 42 = .ok (.ldc2_w 36, 3) := by decide +kernel
theorem d_Table_hashOf_45 : decode b_Table_hashOf 45 = .ok (.lxor, 1) := by decide +kernel
theorem d_Table_hashOf_46 : decode b_Table_hashOf 46 = .ok (.lstore 8, 2) := by decide +kernel
theorem d_Table_hashOf_48 : decode b_Table_hashOf 48 = .ok (.lload 4, 2) := by decide +kernel
theorem d_Table_hashOf_50 : decode b_Table_hashOf 50 = .ok (.ldc2_w 38, 3) := by decide +kernel
theorem d_Table_hashOf_53 : decode b_Table_hashOf 53 = .ok (.lxor, 1) := by decide +kernel
theorem d_Table_hashOf_54 : decode b_Table_hashOf 54 = .ok (.lstore 10, 2) := by decide +kernel
theorem d_Table_hashOf_56 : decode b_Table_hashOf 56 = .ok (.lload_n 2, 1) := by decide +kernel
theorem d_Table_hashOf_57 : decode b_Table_hashOf 57 = .ok (.ldc2_w 40, 3) := by decide +kernel
theorem d_Table_hashOf_60 : decode b_Table_hashOf 60 = .ok (.lxor, 1) := by decide +kernel
theorem d_Table_hashOf_61 : decode b_Table_hashOf 61 = .ok (.lstore 12, 2) := by decide +kernel
theorem d_Table_hashOf_63 : decode b_Table_hashOf 63 = .ok (.lload 4, 2) := by decide +kernel
theorem d_Table_hashOf_65 : decode b_Table_hashOf 65 = .ok (.ldc2_w 42, 3) := by decide +kernel
theorem d_Table_hashOf_68 : decode b_Table_hashOf 68 = .ok (.lxor, 1) := by decide +kernel
theorem d_Table_hashOf_69 : decode b_Table_hashOf 69 = .ok (.lload 6, 2) := by decide +kernel
theorem d_Table_hashOf_71 : decode b_Table_hashOf 71 = .ok (.lxor, 1) := by decide +kernel
theorem d_Table_hashOf_72 : decode b_Table_hashOf 72 = .ok (.lstore 14, 2) := by decide +kernel
theorem d_Table_hashOf_74 : decode b_Table_hashOf 74 = .ok (.iconst 1, 1) := by decide +kernel
theorem d_Table_hashOf_75 : decode b_Table_hashOf 75 = .ok (.istore 16, 2) := by decide +kernel
theorem d_Table_hashOf_77 : decode b_Table_hashOf 77 = .ok (.iload 16, 2) := by decide +kernel
theorem d_Table_hashOf_79 : decode b_Table_hashOf 79 = .ok (.iconst 4, 1) := by decide +kernel
theorem d_Table_hashOf_80 : decode b_Table_hashOf 80 = .ok (.if_icmp .gt 124, 3) := by decide +kernel
theorem d_Table_hashOf_83 : decode b_Table_hashOf 83 = .ok (.lload 8, 2) := by decide +kernel
theorem d_Table_hashOf_85 : decode b_Table_hashOf 85 = .ok (.lload 10, 2) := by decide +kernel
theorem d_Table_hashOf_87 : decode b_Table_hashOf 87 = .ok (.ladd, 1) := by decide +kernel
theorem d_Table_hashOf_88 : decode b_Table_hashOf 88 = .ok (.lstore 8, 2) := by decide +kernel
theorem d_Table_hashOf_90 : decode b_Table_hashOf 90 = .ok (.lload 10, 2) := by decide +kernel
theorem d_Table_hashOf_92 : decode b_Table_hashOf 92 = .ok (.bipush 13, 2) := by decide +kernel
theorem d_Table_hashOf_94 : decode b_Table_hashOf 94 = .ok (.invokestatic 44, 3) := by decide +kernel
theorem d_Table_hashOf_97 : decode b_Table_hashOf 97 = .ok (.lload 8, 2) := by decide +kernel
theorem d_Table_hashOf_99 : decode b_Table_hashOf 99 = .ok (.lxor, 1) := by decide +kernel
theorem d_Table_hashOf_100 : decode b_Table_hashOf 100 = .ok (.lstore 10, 2) := by decide +kernel
theorem d_Table_hashOf_102 : decode b_Table_hashOf 102 = .ok (.lload 8, 2) := by decide +kernel
theorem d_Table_hashOf_104 : decode b_Table_hashOf 104 = .ok (.bipush 32, 2) := by decide +kernel
theorem d_Table_hashOf_106 : decode b_Table_hashOf 106 = .ok (.invokestatic 44, 3) := by decide +kernel
theorem d_Table_hashOf_109 : decode b_Table_hashOf 109 = .ok (.lstore 8, 2) := by decide +kernel
theorem d_Table_hashOf_111 : decode b_Table_hashOf 111 = .ok (.lload 12, 2) := by decide +kernel
theorem d_Table_hashOf_113 : decode b_Table_hashOf 113 = .ok (.lload 14, 2) := by decide +kernel
theorem d_Table_hashOf_115 : decode b_Table_hashOf 115 = .ok (.ladd, 1) := by decide +kernel
theorem d_Table_hashOf_116 : decode b_Table_hashOf 116 = .ok (.lstore 12, 2) := by decide +kernel
theorem d_Table_hashOf_118 : decode b_Table_hashOf 118 = .ok (.lload 14, 2) := by decide +kernel
theorem d_Table_hashOf_120 : decode b_Table_hashOf 120 = .ok (.bipush 16, 2) := by decide +kernel
theorem d_Table_hashOf_122 : decode b_Table_hashOf 122 = .ok (.invokestatic 44, 3) := by decide +kernel
theorem d_Table_hashOf_125 : decode b_Table_hashOf 125 = .ok (.lload 12, 2) := by decide +kernel
theorem d_Table_hashOf_127 : decode b_Table_hashOf 127 = .ok (.lxor, 1) := by decide +kernel
theorem d_Table_hashOf_128 : decode b_Table_hashOf 128 = .ok (.lstore 14, 2) := by decide +kernel
theorem d_Table_hashOf_130 : decode b_Table_hashOf 130 = .ok (.lload 8, 2) := by decide +kernel
theorem d_Table_hashOf_132 : decode b_Table_hashOf 132 = .ok (.lload 14, 2) := by decide +kernel
theorem d_Table_hashOf_134 : decode b_Table_hashOf 134 = .ok (.ladd, 1) := by decide +kernel
theorem d_Table_hashOf_135 : decode b_Table_hashOf 135 = .ok (.lstore 8, 2) := by decide +kernel
theorem d_Table_hashOf_137 : decode b_Table_hashOf 137 = .ok (.lload 14, 2) := by decide +kernel
theorem d_Table_hashOf_139 : decode b_Table_hashOf 139 = .ok (.bipush 21, 2) := by decide +kernel
theorem d_Table_hashOf_141 : decode b_Table_hashOf 141 = .ok (.invokestatic 44, 3) := by decide +kernel
theorem d_Table_hashOf_144 : decode b_Table_hashOf 144 = .ok (.lload 8, 2) := by decide +kernel
theorem d_Table_hashOf_146 : decode b_Table_hashOf 146 = .ok (.lxor, 1) := by decide +kernel
theorem d_Table_hashOf_147 : decode b_Table_hashOf 147 = .ok (.lstore 14, 2) := by decide +kernel
theorem d_Table_hashOf_149 : decode b_Table_hashOf 149 = .ok (.lload 12, 2) := by decide +kernel
theorem d_Table_hashOf_151 : decode b_Table_hashOf 151 = .ok (.lload 10, 2) := by decide +kernel
theorem d_Table_hashOf_153 : decode b_Table_hashOf 153 = .ok (.ladd, 1) := by decide +kernel
theorem d_Table_hashOf_154 : decode b_Table_hashOf 154 = .ok (.lstore 12, 2) := by decide +kernel
theorem d_Table_hashOf_156 : decode b_Table_hashOf 156 = .ok (.lload 10, 2) := by decide +kernel
theorem d_Table_hashOf_158 : decode b_Table_hashOf 158 = .ok (.bipush 17, 2) := by decide +kernel
theorem d_Table_hashOf_160 : decode b_Table_hashOf 160 = .ok (.invokestatic 44, 3) := by decide +kernel
theorem d_Table_hashOf_163 : decode b_Table_hashOf 163 = .ok (.lload 12, 2) := by decide +kernel
theorem d_Table_hashOf_165 : decode b_Table_hashOf 165 = .ok (.lxor, 1) := by decide +kernel
theorem d_Table_hashOf_166 : decode b_Table_hashOf 166 = .ok (.lstore 10, 2) := by decide +kernel
theorem d_Table_hashOf_168 : decode b_Table_hashOf 168 = .ok (.lload 12, 2) := by decide +kernel
theorem d_Table_hashOf_170 : decode b_Table_hashOf 170 = .ok (.bipush 32, 2) := by decide +kernel
theorem d_Table_hashOf_172 : decode b_Table_hashOf 172 = .ok (.invokestatic 44, 3) := by decide +kernel
theorem d_Table_hashOf_175 : decode b_Table_hashOf 175 = .ok (.lstore 12, 2) := by decide +kernel
theorem d_Table_hashOf_177 : decode b_Table_hashOf 177 = .ok (.iload 16, 2) := by decide +kernel
theorem d_Table_hashOf_179 : decode b_Table_hashOf 179 = .ok (.iconst 1, 1) := by decide +kernel
theorem d_Table_hashOf_180 : decode b_Table_hashOf 180 = .ok (.if_icmp .ne 18, 3) := by decide +kernel
theorem d_Table_hashOf_183 : decode b_Table_hashOf 183 = .ok (.lload 8, 2) := by decide +kernel
theorem d_Table_hashOf_185 : decode b_Table_hashOf 185 = .ok (.lload 6, 2) := by decide +kernel
theorem d_Table_hashOf_187 : decode b_Table_hashOf 187 = .ok (.lxor, 1) := by decide +kernel
theorem d_Table_hashOf_188 : decode b_Table_hashOf 188 = .ok (.lstore 8, 2) := by decide +kernel
theorem d_Table_hashOf_190 : decode b_Table_hashOf 190 = .ok (.lload 12, 2) := by decide +kernel
theorem d_Table_hashOf_192 : decode b_Table_hashOf 192 = .ok (.ldc2_w 50, 3) := by decide +kernel
theorem d_Table_hashOf_195 : decode b_Table_hashOf 195 = .ok (.lxor, 1) := by decide +kernel
theorem d_Table_hashOf_196 : decode b_Table_hashOf 196 = .ok (.lstore 12, 2) := by decide +kernel
theorem d_Table_hashOf_198 : decode b_Table_hashOf 198 = .ok (.iinc 16 1, 3) := by decide +kernel
theorem d_Table_hashOf_201 : decode b_Table_hashOf 201 = .ok (.goto (-124), 3) := by decide +kernel
theorem d_Table_hashOf_204 : decode b_Table_hashOf 204 = .ok (.lload 8, 2) := by decide +kernel
theorem d_Table_hashOf_206 : decode b_Table_hashOf 206 = .ok (.lload 10, 2) := by decide +kernel
theorem d_Table_hashOf_208 : decode b_Table_hashOf 208 = .ok (.lxor, 1) := by decide +kernel
theorem d_Table_hashOf_209 : decode b_Table_hashOf 209 = .ok (.lload 12, 2) := by decide +kernel
theorem d_Table_hashOf_211 : decode b_Table_hashOf 211 = .ok (.lxor, 1) := by decide +kernel
theorem d_Table_hashOf_212 : decode b_Table_hashOf 212 = .ok (.lload 14, 2) := by decide +kernel
theorem d_Table_hashOf_214 : decode b_Table_hashOf 214 = .ok (.lxor, 1) := by decide +kernel
theorem d_Table_hashOf_215 : decode b_Table_hashOf 215 = .ok (.lreturn, 1) := by decide +kernel
theorem d_Table_joined_0 : decode b_Table_joined 0 = .ok (.iload_n 1, 1) := by decide +kernel
theorem d_Table_joined_1 : decode b_Table_joined 1 = .ok (.i2l, 1) := by decide +kernel
theorem d_Table_joined_2 : decode b_Table_joined 2 = .ok (.bipush 32, 2) := by decide +kernel
theorem d_Table_joined_4 : decode b_Table_joined 4 = .ok (.lshl, 1) := by decide +kernel
theorem d_Table_joined_5 : decode b_Table_joined 5 = .ok (.iload_n 0, 1) := by decide +kernel
theorem d_Table_joined_6 : decode b_Table_joined 6 = .ok (.i2l, 1) := by decide +kernel
theorem d_Table_joined_7 : decode b_Table_joined 7 = .ok (.ldc2_w 52, 3) := by decide +kernel
theorem d_Table_joined_10 : decode b_Table_joined 10 = .ok (.land, 1) := by decide +kernel
theorem d_Table_joined_11 : decode b_Table_joined 11 = .ok (.lor, 1) := by decide +kernel
theorem d_Table_joined_12 : decode b_Table_joined 12 = .ok (.lreturn, 1) := by decide +kernel
theorem d_Table_homeOf_0 : decode b_Table_homeOf 0 = .ok (.aload_n 0, 1) := by decide +kernel
theorem d_Table_homeOf_1 : decode b_Table_homeOf 1 = .ok (.iload_n 1, 1) := by decide +kernel
theorem d_Table_homeOf_2 : decode b_Table_homeOf 2 = .ok (.invokevirtual 54, 3) := by decide +kernel
theorem d_Table_homeOf_5 : decode b_Table_homeOf 5 = .ok (.l2i, 1) := by decide +kernel
theorem d_Table_homeOf_6 : decode b_Table_homeOf 6 = .ok (.aload_n 0, 1) := by decide +kernel
theorem d_Table_homeOf_7 : decode b_Table_homeOf 7 = .ok (.getfield 9, 3) := by decide +kernel
theorem d_Table_homeOf_10 : decode b_Table_homeOf 10 = .ok (.iand, 1) := by decide +kernel
theorem d_Table_homeOf_11 : decode b_Table_homeOf 11 = .ok (.ireturn, 1) := by decide +kernel
theorem d_Table_cellOf_0 : decode b_Table_cellOf 0 = .ok (.aload_n 0, 1) := by decide +kernel
theorem d_Table_cellOf_1 : decode b_Table_cellOf 1 = .ok (.iload_n 1, 1) := by decide +kernel
theorem d_Table_cellOf_2 : decode b_Table_cellOf 2 = .ok (.invokevirtual 58, 3) := by decide +kernel
theorem d_Table_cellOf_5 : decode b_Table_cellOf 5 = .ok (.istore_n 2, 1) := by decide +kernel
theorem d_Table_cellOf_6 : decode b_Table_cellOf 6 = .ok (.iconst 0, 1) := by decide +kernel
theorem d_Table_cellOf_7 : decode b_Table_cellOf 7 = .ok (.istore_n 3, 1) := by decide +kernel
theorem d_Table_cellOf_8 : decode b_Table_cellOf 8 = .ok (.iload_n 3, 1) := by decide +kernel
theorem d_Table_cellOf_9 : decode b_Table_cellOf 9 = .ok (.aload_n 0, 1) := by decide +kernel
theorem d_Table_cellOf_10 : decode b_Table_cellOf 10 = .ok (.getfield 9, 3) := by decide +kernel
theorem d_Table_cellOf_13 : decode b_Table_cellOf 13 = .ok (.if_icmp .gt 51, 3) := by decide +kernel
theorem d_Table_cellOf_16 : decode b_Table_cellOf 16 = .ok (.aload_n 0, 1) := by decide +kernel
theorem d_Table_cellOf_17 : decode b_Table_cellOf 17 = .ok (.getfield 15, 3) := by decide +kernel
theorem d_Table_cellOf_20 : decode b_Table_cellOf 20 = .ok (.iload_n 2, 1) := by decide +kernel
theorem d_Table_cellOf_21 : decode b_Table_cellOf 21 = .ok (.iaload, 1) := by decide +kernel
theorem d_Table_cellOf_22 : decode b_Table_cellOf 22 = .ok (.ifCond .ne 5, 3) := by decide +kernel
theorem d_Table_cellOf_25 : decode b_Table_cellOf 25 = .ok (.iconst (-1), 1) := by decide +kernel
theorem d_Table_cellOf_26 : decode b_Table_cellOf 26 = .ok (.ireturn, 1) := by decide +kernel
theorem d_Table_cellOf_27 : decode b_Table_cellOf 27 = .ok (.aload_n 0, 1) := by decide +kernel
theorem d_Table_cellOf_28 : decode b_Table_cellOf 28 = .ok (.getfield 15, 3) := by decide +kernel
theorem d_Table_cellOf_31 : decode b_Table_cellOf 31 = .ok (.iload_n 2, 1) := by decide +kernel
theorem d_Table_cellOf_32 : decode b_Table_cellOf 32 = .ok (.iaload, 1) := by decide +kernel
theorem d_Table_cellOf_33 : decode b_Table_cellOf 33 = .ok (.iconst 1, 1) := by decide +kernel
theorem d_Table_cellOf_34 : decode b_Table_cellOf 34 = .ok (.if_icmp .ne 15, 3) := by decide +kernel
theorem d_Table_cellOf_37 : decode b_Table_cellOf 37 = .ok (.aload_n 0, 1) := by decide +kernel
theorem d_Table_cellOf_38 : decode b_Table_cellOf 38 = .ok (.getfield 19, 3) := by decide +kernel
theorem d_Table_cellOf_41 : decode b_Table_cellOf 41 = .ok (.iload_n 2, 1) := by decide +kernel
theorem d_Table_cellOf_42 : decode b_Table_cellOf 42 = .ok (.iaload, 1) := by decide +kernel
theorem d_Table_cellOf_43 : decode b_Table_cellOf 43 = .ok (.iload_n 1, 1) := by decide +kernel
theorem d_Table_cellOf_44 : decode b_Table_cellOf 44 = .ok (.if_icmp .ne 5, 3) := by decide +kernel
theorem d_Table_cellOf_47 : decode b_Table_cellOf 47 = .ok (.iload_n 2, 1) := by decide +kernel
theorem d_Table_cellOf_48 : decode b_Table_cellOf 48 = .ok (.ireturn, 1) := by decide +kernel
theorem d_Table_cellOf_49 : decode b_Table_cellOf 49 = .ok (.iload_n 2, 1) := by decide +kernel
theorem d_Table_cellOf_50 : decode b_Table_cellOf 50 = .ok (.iconst 1, 1) := by decide +kernel
theorem d_Table_cellOf_51 : decode b_Table_cellOf 51 = .ok (.iadd, 1) := by decide +kernel
theorem d_Table_cellOf_52 : decode b_Table_cellOf 52 = .ok (.aload_n 0, 1) := by decide +kernel
theorem d_Table_cellOf_53 : decode b_Table_cellOf 53 = .ok (.getfield 9, 3) := by decide +kernel
theorem d_Table_cellOf_56 : decode b_Table_cellOf 56 = .ok (.iand, 1) := by decide +kernel
theorem d_Table_cellOf_57 : decode b_Table_cellOf 57 = .ok (.istore_n 2, 1) := by decide +kernel
theorem d_Table_cellOf_58 : decode b_Table_cellOf 58 = .ok (.iinc 3 1, 3) := by decide +kernel
theorem d_Table_cellOf_61 : decode b_Table_cellOf 61 = .ok (.goto (-53), 3) := by decide +kernel
theorem d_Table_cellOf_64 : decode b_Table_cellOf 64 = .ok (.iconst (-1), 1) := by decide +kernel
theorem d_Table_cellOf_65 : decode b_Table_cellOf 65 = .ok (.ireturn, 1) := by decide +kernel
theorem d_Table_valueOf_0 : decode b_Table_valueOf 0 = .ok (.aload_n 0, 1) := by decide +kernel
theorem d_Table_valueOf_1 : decode b_Table_valueOf 1 = .ok (.iload_n 1, 1) := by decide +kernel
theorem d_Table_valueOf_2 : decode b_Table_valueOf 2 = .ok (.invokevirtual 62, 3) := by decide +kernel
theorem d_Table_valueOf_5 : decode b_Table_valueOf 5 = .ok (.istore_n 2, 1) := by decide +kernel
theorem d_Table_valueOf_6 : decode b_Table_valueOf 6 = .ok (.iload_n 2, 1) := by decide +kernel
theorem d_Table_valueOf_7 : decode b_Table_valueOf 7 = .ok (.iconst (-1), 1) := by decide +kernel
theorem d_Table_valueOf_8 : decode b_Table_valueOf 8 = .ok (.if_icmp .ne 7, 3) := by decide +kernel
theorem d_Table_valueOf_11 : decode b_Table_valueOf 11 = .ok (.iconst 0, 1) := by decide +kernel
theorem d_Table_valueOf_12 : decode b_Table_valueOf 12 = .ok (.goto 9, 3) := by decide +kernel
theorem d_Table_valueOf_15 : decode b_Table_valueOf 15 = .ok (.aload_n 0, 1) := by decide +kernel
theorem d_Table_valueOf_16 : decode b_Table_valueOf 16 = .ok (.getfield 22, 3) := by decide +kernel
theorem d_Table_valueOf_19 : decode b_Table_valueOf 19 = .ok (.iload_n 2, 1) := by decide +kernel
theorem d_Table_valueOf_20 : decode b_Table_valueOf 20 = .ok (.iaload, 1) := by decide +kernel
theorem d_Table_valueOf_21 : decode b_Table_valueOf 21 = .ok (.ireturn, 1) := by decide +kernel
theorem d_Table_change_0 : decode b_Table_change 0 = .ok (.aload_n 0, 1) := by decide +kernel
theorem d_Table_change_1 : decode b_Table_change 1 = .ok (.iload_n 1, 1) := by decide +kernel
theorem d_Table_change_2 : decode b_Table_change 2 = .ok (.invokevirtual 62, 3) := by decide +kernel
theorem d_Table_change_5 : decode b_Table_change 5 = .ok (.istore_n 3, 1) := by decide +kernel
theorem d_Table_change_6 : decode b_Table_change 6 = .ok (.iload_n 3, 1) := by decide +kernel
theorem d_Table_change_7 : decode b_Table_change 7 = .ok (.iconst (-1), 1) := by decide +kernel
theorem d_Table_change_8 : decode b_Table_change 8 = .ok (.if_icmp .eq 10, 3) := by decide +kernel
theorem d_Table_change_11 : decode b_Table_change 11 = .ok (.aload_n 0, 1) := by decide +kernel
theorem d_Table_change_12 : decode b_Table_change 12 = .ok (.getfield 22, 3) := by decide +kernel
theorem d_Table_change_15 : decode b_Table_change 15 = .ok (.iload_n 3, 1) := by decide +kernel
theorem d_Table_change_16 : decode b_Table_change 16 = .ok (.iload_n 2, 1) := by decide +kernel
theorem d_Table_change_17 : decode b_Table_change 17 = .ok (.iastore, 1) := by decide +kernel
theorem d_Table_change_18 : decode b_Table_change 18 = .ok (.return_, 1) := by decide +kernel
theorem d_Table_place_0 : decode b_Table_place 0 = .ok (.aload_n 0, 1) := by decide +kernel
theorem d_Table_place_1 : decode b_Table_place 1 = .ok (.iload_n 1, 1) := by decide +kernel
theorem d_Table_place_2 : decode b_Table_place 2 = .ok (.invokevirtual 58, 3) := by decide +kernel
theorem d_Table_place_5 : decode b_Table_place 5 = .ok (.istore_n 3, 1) := by decide +kernel
theorem d_Table_place_6 : decode b_Table_place 6 = .ok (.iconst 1, 1) := by decide +kernel
theorem d_Table_place_7 : decode b_Table_place 7 = .ok (.istore 4, 2) := by decide +kernel
theorem d_Table_place_9 : decode b_Table_place 9 = .ok (.iload 4, 2) := by decide +kernel
theorem d_Table_place_11 : decode b_Table_place 11 = .ok (.aload_n 0, 1) := by decide +kernel
theorem d_Table_place_12 : decode b_Table_place 12 = .ok (.getfield 9, 3) := by decide +kernel
theorem d_Table_place_15 : decode b_Table_place 15 = .ok (.if_icmp .gt 27, 3) := by decide +kernel
theorem d_Table_place_18 : decode b_Table_place 18 = .ok (.aload_n 0, 1) := by decide +kernel
theorem d_Table_place_19 : decode b_Table_place 19 = .ok (.getfield 15, 3) := by decide +kernel
theorem d_Table_place_22 : decode b_Table_place 22 = .ok (.iload_n 3, 1) := by decide +kernel
theorem d_Table_place_23 : decode b_Table_place 23 = .ok (.iaload, 1) := by decide +kernel
theorem d_Table_place_24 : decode b_Table_place 24 = .ok (.ifCond .eq 18, 3) := by decide +kernel
theorem d_Table_place_27 : decode b_Table_place 27 = .ok (.iload_n 3, 1) := by decide +kernel
theorem d_Table_place_28 : decode b_Table_place 28 = .ok (.iconst 1, 1) := by decide +kernel
theorem d_Table_place_29 : decode b_Table_place 29 = .ok (.iadd, 1) := by decide +kernel
theorem d_Table_place_30 : decode b_Table_place 30 = .ok (.aload_n 0, 1) := by decide +kernel
theorem d_Table_place_31 : decode b_Table_place 31 = .ok (.getfield 9, 3) := by decide +kernel
theorem d_Table_place_34 : decode b_Table_place 34 = .ok (.iand, 1) := by decide +kernel
theorem d_Table_place_35 : decode b_Table_place 35 = .ok (.istore_n 3, 1) := by decide +kernel
theorem d_Table_place_36 : decode b_Table_place 36 = .ok (.iinc 4 1, 3) := by decide +kernel
theorem d_Table_place_39 : decode b_Table_place 39 = .ok (.goto (-30), 3) := by decide +kernel
theorem d_Table_place_42 : decode b_Table_place 42 = .ok (.aload_n 0, 1) := by decide +kernel
theorem d_Table_place_43 : decode b_Table_place 43 = .ok (.iload_n 3, 1) := by decide +kernel
theorem d_Table_place_44 : decode b_Table_place 44 = .ok (.iload_n 1, 1) := by decide +kernel
theorem d_Table_place_45 : decode b_Table_place 45 = .ok (.iload_n 2, 1) := by decide +kernel
theorem d_Table_place_46 : decode b_Table_place 46 = .ok (.invokevirtual 65, 3) := by decide +kernel
theorem d_Table_place_49 : decode b_Table_place 49 = .ok (.aload_n 0, 1) := by decide +kernel
theorem d_Table_place_50 : decode b_Table_place 50 = .ok (.dup, 1) := by decide +kernel
theorem d_Table_place_51 : decode b_Table_place 51 = .ok (.getfield 28, 3) := by decide +kernel
theorem d_Table_place_54 : decode b_Table_place 54 = .ok (.iconst 1, 1) := by decide +kernel
theorem d_Table_place_55 : decode b_Table_place 55 = .ok (.iadd, 1) := by decide +kernel
theorem d_Table_place_56 : decode b_Table_place 56 = .ok (.putfield 28, 3) := by decide +kernel
theorem d_Table_place_59 : decode b_Table_place 59 = .ok (.iload 4, 2) := by decide +kernel
theorem d_Table_place_61 : decode b_Table_place 61 = .ok (.ireturn, 1) := by decide +kernel
theorem d_Table_fill_0 : decode b_Table_fill 0 = .ok (.aload_n 0, 1) := by decide +kernel
theorem d_Table_fill_1 : decode b_Table_fill 1 = .ok (.getfield 15, 3) := by decide +kernel
theorem d_Table_fill_4 : decode b_Table_fill 4 = .ok (.iload_n 1, 1) := by decide +kernel
theorem d_Table_fill_5 : decode b_Table_fill 5 = .ok (.iconst 1, 1) := by decide +kernel
theorem d_Table_fill_6 : decode b_Table_fill 6 = .ok (.iastore, 1) := by decide +kernel
theorem d_Table_fill_7 : decode b_Table_fill 7 = .ok (.aload_n 0, 1) := by decide +kernel
theorem d_Table_fill_8 : decode b_Table_fill 8 = .ok (.getfield 19, 3) := by decide +kernel
theorem d_Table_fill_11 : decode b_Table_fill 11 = .ok (.iload_n 1, 1) := by decide +kernel
theorem d_Table_fill_12 : decode b_Table_fill 12 = .ok (.iload_n 2, 1) := by decide +kernel
theorem d_Table_fill_13 : decode b_Table_fill 13 = .ok (.iastore, 1) := by decide +kernel
theorem d_Table_fill_14 : decode b_Table_fill 14 = .ok (.aload_n 0, 1) := by decide +kernel
theorem d_Table_fill_15 : decode b_Table_fill 15 = .ok (.getfield 22, 3) := by decide +kernel
theorem d_Table_fill_18 : decode b_Table_fill 18 = .ok (.iload_n 1, 1) := by decide +kernel
theorem d_Table_fill_19 : decode b_Table_fill 19 = .ok (.iload_n 3, 1) := by decide +kernel
theorem d_Table_fill_20 : decode b_Table_fill 20 = .ok (.iastore, 1) := by decide +kernel
theorem d_Table_fill_21 : decode b_Table_fill 21 = .ok (.return_, 1) := by decide +kernel
theorem d_Table_takeOut_0 : decode b_Table_takeOut 0 = .ok (.iload_n 1, 1) := by decide +kernel
theorem d_Table_takeOut_1 : decode b_Table_takeOut 1 = .ok (.istore_n 2, 1) := by decide +kernel
theorem d_Table_takeOut_2 : decode b_Table_takeOut 2 = .ok (.aload_n 0, 1) := by decide +kernel
theorem d_Table_takeOut_3 : decode b_Table_takeOut 3 = .ok (.getfield 15, 3) := by decide +kernel
theorem d_Table_takeOut_6 : decode b_Table_takeOut 6 = .ok (.iload_n 2, 1) := by decide +kernel
theorem d_Table_takeOut_7 : decode b_Table_takeOut 7 = .ok (.iconst 0, 1) := by decide +kernel
theorem d_Table_takeOut_8 : decode b_Table_takeOut 8 = .ok (.iastore, 1) := by decide +kernel
theorem d_Table_takeOut_9 : decode b_Table_takeOut 9 = .ok (.aload_n 0, 1) := by decide +kernel
theorem d_Table_takeOut_10 : decode b_Table_takeOut 10 = .ok (.dup, 1) := by decide +kernel
theorem d_Table_takeOut_11 : decode b_Table_takeOut 11 = .ok (.getfield 28, 3) := by decide +kernel
theorem d_Table_takeOut_14 : decode b_Table_takeOut 14 = .ok (.iconst 1, 1) := by decide +kernel
theorem d_Table_takeOut_15 : decode b_Table_takeOut 15 = .ok (.isub, 1) := by decide +kernel
theorem d_Table_takeOut_16 : decode b_Table_takeOut 16 = .ok (.putfield 28, 3) := by decide +kernel
theorem d_Table_takeOut_19 : decode b_Table_takeOut 19 = .ok (.iconst 1, 1) := by decide +kernel
theorem d_Table_takeOut_20 : decode b_Table_takeOut 20 = .ok (.istore_n 3, 1) := by decide +kernel
theorem d_Table_takeOut_21 : decode b_Table_takeOut 21 = .ok (.iload_n 3, 1) := by decide +kernel
theorem d_Table_takeOut_22 : decode b_Table_takeOut 22 = .ok (.aload_n 0, 1) := by decide +kernel
theorem d_Table_takeOut_23 : decode b_Table_takeOut 23 = .ok (.getfield 9, 3) := by decide +kernel
theorem d_Table_takeOut_26 : decode b_Table_takeOut 26 = .ok (.if_icmp .gt 101, 3) := by decide +kernel
theorem d_Table_takeOut_29 : decode b_Table_takeOut 29 = .ok (.iload_n 1, 1) := by decide +kernel
theorem d_Table_takeOut_30 : decode b_Table_takeOut 30 = .ok (.iload_n 3, 1) := by decide +kernel
theorem d_Table_takeOut_31 : decode b_Table_takeOut 31 = .ok (.iadd, 1) := by decide +kernel
theorem d_Table_takeOut_32 : decode b_Table_takeOut 32 = .ok (.aload_n 0, 1) := by decide +kernel
theorem d_Table_takeOut_33 : decode b_Table_takeOut 33 = .ok (.getfield 9, 3) := by decide +kernel
theorem d_Table_takeOut_36 : decode b_Table_takeOut 36 = .ok (.iand, 1) := by decide +kernel
theorem d_Table_takeOut_37 : decode b_Table_takeOut 37 = .ok (.istore 4, 2) := by decide +kernel
theorem d_Table_takeOut_39 : decode b_Table_takeOut 39 = .ok (.aload_n 0, 1) := by decide +kernel
theorem d_Table_takeOut_40 : decode b_Table_takeOut 40 = .ok (.getfield 15, 3) := by decide +kernel
theorem d_Table_takeOut_43 : decode b_Table_takeOut 43 = .ok (.iload 4, 2) := by decide +kernel
theorem d_Table_takeOut_45 : decode b_Table_takeOut 45 = .ok (.iaload, 1) := by decide +kernel
theorem d_Table_takeOut_46 : decode b_Table_takeOut 46 = .ok (.ifCond .ne 6, 3) := by decide +kernel
theorem d_Table_takeOut_49 : decode b_Table_takeOut 49 = .ok (.goto 78, 3) := by decide +kernel
theorem d_Table_takeOut_52 : decode b_Table_takeOut 52 = .ok (.iload 4, 2) := by decide +kernel
theorem d_Table_takeOut_54 : decode b_Table_takeOut 54 = .ok (.aload_n 0, 1) := by decide +kernel
theorem d_Table_takeOut_55 : decode b_Table_takeOut 55 = .ok (.aload_n 0, 1) := by decide +kernel
theorem d_Table_takeOut_56 : decode b_Table_takeOut 56 = .ok (.getfield 19, 3) := by decide +kernel
theorem d_Table_takeOut_59 : decode b_Table_takeOut 59 = .ok (.iload 4, 2) := by decide +kernel
theorem d_Table_takeOut_61 : decode b_Table_takeOut 61 = .ok (.iaload, 1) := by decide +kernel
theorem d_Table_takeOut_62 : decode b_Table_takeOut 62 = .ok (.invokevirtual 58, 3) := by decide +kernel
theorem d_Table_takeOut_65 : decode b_Table_takeOut 65 = .ok (.isub, 1) := by decide +kernel
theorem d_Table_takeOut_66 : decode b_Table_takeOut 66 = .ok (.aload_n 0, 1) := by decide +kernel
theorem d_Table_takeOut_67 : decode b_Table_takeOut 67 = .ok (.getfield 9, 3) := by decide +kernel
theorem d_Table_takeOut_70 : decode b_Table_takeOut 70 = .ok (.iand, 1) := by decide +kernel
theorem d_Table_takeOut_71 : decode b_Table_takeOut 71 = .ok (.istore 5, 2) := by decide +kernel
theorem d_Table_takeOut_73 : decode b_Table_takeOut 73 = .ok (.iload 4, 2) := by decide +kernel
theorem d_Table_takeOut_75 : decode b_Table_takeOut 75 = .ok (.iload_n 2, 1) := by decide +kernel
theorem d_Table_takeOut_76 : decode b_Table_takeOut 76 = .ok (.isub, 1) := by decide +kernel
theorem d_Table_takeOut_77 : decode b_Table_takeOut 77 = .ok (.aload_n 0, 1) := by decide +kernel
theorem d_Table_takeOut_78 : decode b_Table_takeOut 78 = .ok (.getfield 9, 3) := by decide +kernel
theorem d_Table_takeOut_81 : decode b_Table_takeOut 81 = .ok (.iand, 1) := by decide +kernel
theorem d_Table_takeOut_82 : decode b_Table_takeOut 82 = .ok (.istore 6, 2) := by decide +kernel
theorem d_Table_takeOut_84 : decode b_Table_takeOut 84 = .ok (.iload 5, 2) := by decide +kernel
theorem d_Table_takeOut_86 : decode b_Table_takeOut 86 = .ok (.iload 6, 2) := by decide +kernel
theorem d_Table_takeOut_88 : decode b_Table_takeOut 88 = .ok (.if_icmp .lt 33, 3) := by decide +kernel
theorem d_Table_takeOut_91 : decode b_Table_takeOut 91 = .ok (.aload_n 0, 1) := by decide +kernel
theorem d_Table_takeOut_92 : decode b_Table_takeOut 92 = .ok (.iload_n 2, 1) := by decide +kernel
theorem d_Table_takeOut_93 : decode b_Table_takeOut 93 = .ok (.aload_n 0, 1) := by decide +kernel
theorem d_Table_takeOut_94 : decode b_Table_takeOut 94 = .ok (.getfield 19, 3) := by decide +kernel
theorem d_Table_takeOut_97 : decode b_Table_takeOut 97 = .ok (.iload 4, 2) := by decide +kernel
theorem d_Table_takeOut_99 : decode b_Table_takeOut 99 = .ok (.iaload, 1) := by decide +kernel
theorem d_Table_takeOut_100 : decode b_Table_takeOut 100 = .ok (.aload_n 0, 1) := by decide +kernel
theorem d_Table_takeOut_101 : decode b_Table_takeOut 101 = .ok (.getfield 22, 3) := by decide +kernel
theorem d_Table_takeOut_104 : decode b_Table_takeOut 104 = .ok (.iload 4, 2) := by decide +kernel
theorem d_Table_takeOut_106 : decode b_Table_takeOut 106 = .ok (.iaload, 1) := by decide +kernel
theorem d_Table_takeOut_107 : decode b_Table_takeOut 107 = .ok (.invokevirtual 65, 3) := by decide +kernel
theorem d_Table_takeOut_110 : decode b_Table_takeOut 110 = .ok (.aload_n 0, 1) := by decide +kernel
theorem d_Table_takeOut_111 : decode b_Table_takeOut 111 = .ok (.getfield 15, 3) := by decide +kernel
theorem d_Table_takeOut_114 : decode b_Table_takeOut 114 = .ok (.iload 4, 2) := by decide +kernel
theorem d_Table_takeOut_116 : decode b_Table_takeOut 116 = .ok (.iconst 0, 1) := by decide +kernel
theorem d_Table_takeOut_117 : decode b_Table_takeOut 117 = .ok (.iastore, 1) := by decide +kernel
theorem d_Table_takeOut_118 : decode b_Table_takeOut 118 = .ok (.iload 4, 2) := by decide +kernel
theorem d_Table_takeOut_120 : decode b_Table_takeOut 120 = .ok (.istore_n 2, 1) := by decide +kernel
theorem d_Table_takeOut_121 : decode b_Table_takeOut 121 = .ok (.iinc 3 1, 3) := by decide +kernel
theorem d_Table_takeOut_124 : decode b_Table_takeOut 124 = .ok (.goto (-103), 3) := by decide +kernel
theorem d_Table_takeOut_127 : decode b_Table_takeOut 127 = .ok (.return_, 1) := by decide +kernel
theorem d_Table_markGone_0 : decode b_Table_markGone 0 = .ok (.aload_n 0, 1) := by decide +kernel
theorem d_Table_markGone_1 : decode b_Table_markGone 1 = .ok (.getfield 15, 3) := by decide +kernel
theorem d_Table_markGone_4 : decode b_Table_markGone 4 = .ok (.iload_n 1, 1) := by decide +kernel
theorem d_Table_markGone_5 : decode b_Table_markGone 5 = .ok (.iconst 2, 1) := by decide +kernel
theorem d_Table_markGone_6 : decode b_Table_markGone 6 = .ok (.iastore, 1) := by decide +kernel
theorem d_Table_markGone_7 : decode b_Table_markGone 7 = .ok (.aload_n 0, 1) := by decide +kernel
theorem d_Table_markGone_8 : decode b_Table_markGone 8 = .ok (.dup, 1) := by decide +kernel
theorem d_Table_markGone_9 : decode b_Table_markGone 9 = .ok (.getfield 28, 3) := by decide +kernel
theorem d_Table_markGone_12 : decode b_Table_markGone 12 = .ok (.iconst 1, 1) := by decide +kernel
theorem d_Table_markGone_13 : decode b_Table_markGone 13 = .ok (.isub, 1) := by decide +kernel
theorem d_Table_markGone_14 : decode b_Table_markGone 14 = .ok (.putfield 28, 3) := by decide +kernel
theorem d_Table_markGone_17 : decode b_Table_markGone 17 = .ok (.return_, 1) := by decide +kernel
theorem d_Table_markAt_0 : decode b_Table_markAt 0 = .ok (.iload_n 1, 1) := by decide +kernel
theorem d_Table_markAt_1 : decode b_Table_markAt 1 = .ok (.ifCond .lt 20, 3) := by decide +kernel
theorem d_Table_markAt_4 : decode b_Table_markAt 4 = .ok (.iload_n 1, 1) := by decide +kernel
theorem d_Table_markAt_5 : decode b_Table_markAt 5 = .ok (.aload_n 0, 1) := by decide +kernel
theorem d_Table_markAt_6 : decode b_Table_markAt 6 = .ok (.getfield 9, 3) := by decide +kernel
theorem d_Table_markAt_9 : decode b_Table_markAt 9 = .ok (.if_icmp .gt 12, 3) := by decide +kernel
theorem d_Table_markAt_12 : decode b_Table_markAt 12 = .ok (.aload_n 0, 1) := by decide +kernel
theorem d_Table_markAt_13 : decode b_Table_markAt 13 = .ok (.getfield 15, 3) := by decide +kernel
theorem d_Table_markAt_16 : decode b_Table_markAt 16 = .ok (.iload_n 1, 1) := by decide +kernel
theorem d_Table_markAt_17 : decode b_Table_markAt 17 = .ok (.iaload, 1) := by decide +kernel
theorem d_Table_markAt_18 : decode b_Table_markAt 18 = .ok (.goto 4, 3) := by decide +kernel
theorem d_Table_markAt_21 : decode b_Table_markAt 21 = .ok (.iconst 0, 1) := by decide +kernel
theorem d_Table_markAt_22 : decode b_Table_markAt 22 = .ok (.ireturn, 1) := by decide +kernel
theorem d_Table_nearestAbove_0 : decode b_Table_nearestAbove 0 = .ok (.iload_n 2, 1) := by decide +kernel
theorem d_Table_nearestAbove_1 : decode b_Table_nearestAbove 1 = .ok (.istore_n 3, 1) := by decide +kernel
theorem d_Table_nearestAbove_2 : decode b_Table_nearestAbove 2 = .ok (.iconst 0, 1) := by decide +kernel
theorem d_Table_nearestAbove_3 : decode b_Table_nearestAbove 3 = .ok (.istore 4, 2) := by decide +kernel
theorem d_Table_nearestAbove_5 : decode b_Table_nearestAbove 5 = .ok (.iload 4, 2) := by decide +kernel
theorem d_Table_nearestAbove_7 : decode b_Table_nearestAbove 7 = .ok (.aload_n 0, 1) := by decide +kernel
theorem d_Table_nearestAbove_8 : decode b_Table_nearestAbove 8 = .ok (.getfield 9, 3) := by decide +kernel
theorem d_Table_nearestAbove_11 : decode b_Table_nearestAbove 11 = .ok (.if_icmp .gt 49, 3) := by decide +kernel
theorem d_Table_nearestAbove_14 : decode b_Table_nearestAbove 14 = .ok (.aload_n 0, 1) := by decide +kernel
theorem d_Table_nearestAbove_15 : decode b_Table_nearestAbove 15 = .ok (.getfield 19, 3) := by decide +kernel
theorem d_Table_nearestAbove_18 : decode b_Table_nearestAbove 18 = .ok (.iload 4, 2) := by decide +kernel
theorem d_Table_nearestAbove_20 : decode b_Table_nearestAbove 20 = .ok (.iaload, 1) := by decide +kernel
theorem d_Table_nearestAbove_21 : decode b_Table_nearestAbove 21 = .ok (.istore 5, 2) := by decide +kernel
theorem d_Table_nearestAbove_23 : decode b_Table_nearestAbove 23 = .ok (.aload_n 0, 1) := by decide +kernel
theorem d_Table_nearestAbove_24 : decode b_Table_nearestAbove 24 = .ok (.getfield 15, 3) := by decide +kernel
theorem d_Table_nearestAbove_27 : decode b_Table_nearestAbove 27 = .ok (.iload 4, 2) := by decide +kernel
theorem d_Table_nearestAbove_29 : decode b_Table_nearestAbove 29 = .ok (.iaload, 1) := by decide +kernel
theorem d_Table_nearestAbove_30 : decode b_Table_nearestAbove 30 = .ok (.iconst 1, 1) := by decide +kernel
theorem d_Table_nearestAbove_31 : decode b_Table_nearestAbove 31 = .ok (.if_icmp .ne 23, 3) := by decide +kernel
theorem d_Table_nearestAbove_34 : decode b_Table_nearestAbove 34 = .ok (.iload 5, 2) := by decide +kernel
theorem d_Table_nearestAbove_36 : decode b_Table_nearestAbove 36 = .ok (.iload_n 1, 1) := by decide +kernel
theorem d_Table_nearestAbove_37 : decode b_Table_nearestAbove 37 = .ok (.if_icmp .le 17, 3) := by decide +kernel
theorem d_Table_nearestAbove_40 : decode b_Table_nearestAbove 40 = .ok (.iload_n 3, 1) := by decide +kernel
theorem d_Table_nearestAbove_41 : decode b_Table_nearestAbove 41 = .ok (.iload_n 1, 1) := by decide +kernel
theorem d_Table_nearestAbove_42 : decode b_Table_nearestAbove 42 = .ok (.if_icmp .eq 9, 3) := by decide +kernel
theorem d_Table_nearestAbove_45 : decode b_Table_nearestAbove 45 = .ok (.iload 5, 2) := by decide +kernel
theorem d_Table_nearestAbove_47 : decode b_Table_nearestAbove 47 = .ok (.iload_n 3, 1) := by decide +kernel
theorem d_Table_nearestAbove_48 : decode b_Table_nearestAbove 48 = .ok (.if_icmp .ge 6, 3) := by decide +kernel
theorem d_Table_nearestAbove_51 : decode b_Table_nearestAbove 51 = .ok (.iload 5, 2) := by decide +kernel
theorem d_Table_nearestAbove_53 : decode b_Table_nearestAbove 53 = .ok (.istore_n 3, 1) := by decide +kernel
theorem d_Table_nearestAbove_54 : decode b_Table_nearestAbove 54 = .ok (.iinc 4 1, 3) := by decide +kernel
theorem d_Table_nearestAbove_57 : decode b_Table_nearestAbove 57 = .ok (.goto (-52), 3) := by decide +kernel
theorem d_Table_nearestAbove_60 : decode b_Table_nearestAbove 60 = .ok (.iload_n 3, 1) := by decide +kernel
theorem d_Table_nearestAbove_61 : decode b_Table_nearestAbove 61 = .ok (.ireturn, 1) := by decide +kernel
theorem d_Int_rotateLeft_0 : decode b_Int_rotateLeft 0 = .ok (.iload_n 0, 1) := by decide +kernel
theorem d_Int_rotateLeft_1 : decode b_Int_rotateLeft 1 = .ok (.iload_n 1, 1) := by decide +kernel
theorem d_Int_rotateLeft_2 : decode b_Int_rotateLeft 2 = .ok (.ishl, 1) := by decide +kernel
theorem d_Int_rotateLeft_3 : decode b_Int_rotateLeft 3 = .ok (.iload_n 0, 1) := by decide +kernel
theorem d_Int_rotateLeft_4 : decode b_Int_rotateLeft 4 = .ok (.iload_n 1, 1) := by decide +kernel
theorem d_Int_rotateLeft_5 : decode b_Int_rotateLeft 5 = .ok (.ineg, 1) := by decide +kernel
theorem d_Int_rotateLeft_6 : decode b_Int_rotateLeft 6 = .ok (.iushr, 1) := by decide +kernel
theorem d_Int_rotateLeft_7 : decode b_Int_rotateLeft 7 = .ok (.ior, 1) := by decide +kernel
theorem d_Int_rotateLeft_8 : decode b_Int_rotateLeft 8 = .ok (.ireturn, 1) := by decide +kernel
theorem d_Lng_rotateLeft_0 : decode b_Lng_rotateLeft 0 = .ok (.lload_n 0, 1) := by decide +kernel
theorem d_Lng_rotateLeft_1 : decode b_Lng_rotateLeft 1 = .ok (.iload_n 2, 1) := by decide +kernel
theorem d_Lng_rotateLeft_2 : decode b_Lng_rotateLeft 2 = .ok (.lshl, 1) := by decide +kernel
theorem d_Lng_rotateLeft_3 : decode b_Lng_rotateLeft 3 = .ok (.lload_n 0, 1) := by decide +kernel
theorem d_Lng_rotateLeft_4 : decode b_Lng_rotateLeft 4 = .ok (.iload_n 2, 1) := by decide +kernel
theorem d_Lng_rotateLeft_5 : decode b_Lng_rotateLeft 5 = .ok (.ineg, 1) := by decide +kernel
theorem d_Lng_rotateLeft_6 : decode b_Lng_rotateLeft 6 = .ok (.lushr, 1) := by decide +kernel
theorem d_Lng_rotateLeft_7 : decode b_Lng_rotateLeft 7 = .ok (.lor, 1) := by decide +kernel
theorem d_Lng_rotateLeft_8 : decode b_Lng_rotateLeft 8 = .ok (.lreturn, 1) := by decide +kernel
