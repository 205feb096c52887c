theorem d_Cells_init_0 : decode b_Cells_init 0 = .ok (.aload_n 0, 1) := by decide +kernel
theorem d_Cells_init_1 : decode b_Cells_init 1 = .ok (.invokespecial 1, 3) := by decide +kernel
theorem d_Cells_init_4 : decode b_Cells_init 4 = .ok (.iconst 1, 1) := by decide +kernel
theorem d_Cells_init_5 : decode b_Cells_init 5 = .ok (.iconst 3, 1) := by decide +kernel
theorem d_Cells_init_6 : decode b_Cells_init 6 = .ok (.bipush 7, 2) := by decide +kernel
theorem d_Cells_init_8 : decode b_Cells_init 8 = .ok (.iload_n 2, 1) := by decide +kernel
theorem d_Cells_init_9 : decode b_Cells_init 9 = .ok (.invokestatic 9, 3) := by decide +kernel
theorem d_Cells_init_12 : decode b_Cells_init 12 = .ok (.invokestatic 15, 3) := by decide +kernel
theorem d_Cells_init_15 : decode b_Cells_init 15 = .ok (.ishl, 1) := by decide +kernel
theorem d_Cells_init_16 : decode b_Cells_init 16 = .ok (.istore 4, 2) := by decide +kernel
theorem d_Cells_init_18 : decode b_Cells_init 18 = .ok (.aload_n 0, 1) := by decide +kernel
theorem d_Cells_init_19 : decode b_Cells_init 19 = .ok (.iconst 2, 1) := by decide +kernel
theorem d_Cells_init_20 : decode b_Cells_init 20 = .ok (.bipush 64, 2) := by decide +kernel
theorem d_Cells_init_22 : decode b_Cells_init 22 = .ok (.iload_n 3, 1) := by decide +kernel
theorem d_Cells_init_23 : decode b_Cells_init 23 = .ok (.invokestatic 9, 3) := by decide +kernel
theorem d_Cells_init_26 : decode b_Cells_init 26 = .ok (.invokestatic 15, 3) := by decide +kernel
theorem d_Cells_init_29 : decode b_Cells_init 29 = .ok (.putfield 18, 3) := by decide +kernel
theorem d_Cells_init_32 : decode b_Cells_init 32 = .ok (.aload_n 0, 1) := by decide +kernel
theorem d_Cells_init_33 : decode b_Cells_init 33 = .ok (.iconst 3, 1) := by decide +kernel
theorem d_Cells_init_34 : decode b_Cells_init 34 = .ok (.iload 4, 2) := by decide +kernel
theorem d_Cells_init_36 : decode b_Cells_init 36 = .ok (.imul, 1) := by decide +kernel
theorem d_Cells_init_37 : decode b_Cells_init 37 = .ok (.iconst 4, 1) := by decide +kernel
theorem d_Cells_init_38 : decode b_Cells_init 38 = .ok (.idiv, 1) := by decide +kernel
theorem d_Cells_init_39 : decode b_Cells_init 39 = .ok (.putfield 22, 3) := by decide +kernel
theorem d_Cells_init_42 : decode b_Cells_init 42 = .ok (.aload_n 0, 1) := by decide +kernel
theorem d_Cells_init_43 : decode b_Cells_init 43 = .ok (.new 25, 3) := by decide +kernel
theorem d_Cells_init_46 : decode b_Cells_init 46 = .ok (.dup, 1) := by decide +kernel
theorem d_Cells_init_47 : decode b_Cells_init 47 = .ok (.iload_n 1, 1) := by decide +kernel
theorem d_Cells_init_48 : decode b_Cells_init 48 = .ok (.invokespecial 27, 3) := by decide +kernel
theorem d_Cells_init_51 : decode b_Cells_init 51 = .ok (.putfield 30, 3) := by decide +kernel
theorem d_Cells_init_54 : decode b_Cells_init 54 = .ok (.aload_n 0, 1) := by decide +kernel
theorem d_Cells_init_55 : decode b_Cells_init 55 = .ok (.new 34, 3) := by decide +kernel
theorem d_Cells_init_58 : decode b_Cells_init 58 = .ok (.dup, 1) := by decide +kernel
theorem d_Cells_init_59 : decode b_Cells_init 59 = .ok (.iload 4, 2) := by decide +kernel
theorem d_Cells_init_61 : decode b_Cells_init 61 = .ok (.invokespecial 36, 3) := by decide +kernel
theorem d_Cells_init_64 : decode b_Cells_init 64 = .ok (.putfield 37, 3) := by decide +kernel
theorem d_Cells_init_67 : decode b_Cells_init 67 = .ok (.aload_n 0, 1) := by decide +kernel
theorem d_Cells_init_68 : decode b_Cells_init 68 = .ok (.new 34, 3) := by decide +kernel
theorem d_Cells_init_71 : decode b_Cells_init 71 = .ok (.dup, 1) := by decide +kernel
theorem d_Cells_init_72 : decode b_Cells_init 72 = .ok (.iload 4, 2) := by decide +kernel
theorem d_Cells_init_74 : decode b_Cells_init 74 = .ok (.invokespecial 36, 3) := by decide +kernel
theorem d_Cells_init_77 : decode b_Cells_init 77 = .ok (.putfield 41, 3) := by decide +kernel
theorem d_Cells_init_80 : decode b_Cells_init 80 = .ok (.aload_n 0, 1) := by decide +kernel
theorem d_Cells_init_81 : decode b_Cells_init 81 = .ok (.iconst 0, 1) := by decide +kernel
theorem d_Cells_init_82 : decode b_Cells_init 82 = .ok (.putfield 44, 3) := by decide +kernel
theorem d_Cells_init_85 : decode b_Cells_init 85 = .ok (.aload_n 0, 1) := by decide +kernel
theorem d_Cells_init_86 : decode b_Cells_init 86 = .ok (.iconst 0, 1) := by decide +kernel
theorem d_Cells_init_87 : decode b_Cells_init 87 = .ok (.putfield 47, 3) := by decide +kernel
theorem d_Cells_init_90 : decode b_Cells_init 90 = .ok (.aload_n 0, 1) := by decide +kernel
theorem d_Cells_init_91 : decode b_Cells_init 91 = .ok (.invokevirtual 50, 3) := by decide +kernel
theorem d_Cells_init_94 : decode b_Cells_init 94 = .ok (.return_, 1) := by decide +kernel
theorem d_Cells_put_0 : decode b_Cells_put 0 = .ok (.aload_n 0, 1) := by decide +kernel
theorem d_Cells_put_1 : decode b_Cells_put 1 = .ok (.invokevirtual 53, 3) := by decide +kernel
theorem d_Cells_put_4 : decode b_Cells_put 4 = .ok (.pop, 1) := by decide +kernel
theorem d_Cells_put_5 : decode b_Cells_put 5 = .ok (.aload_n 0, 1) := by decide +kernel
theorem d_Cells_put_6 : decode b_Cells_put 6 = .ok (.iload_n 1, 1) := by decide +kernel
theorem d_Cells_put_7 : decode b_Cells_put 7 = .ok (.invokevirtual 57, 3) := by decide +kernel
theorem d_Cells_put_10 : decode b_Cells_put 10 = .ok (.astore_n 3, 1) := by decide +kernel
theorem d_Cells_put_11 : decode b_Cells_put 11 = .ok (.aload_n 3, 1) := by decide +kernel
theorem d_Cells_put_12 : decode b_Cells_put 12 = .ok (.ifnull 11, 3) := by decide +kernel
theorem d_Cells_put_15 : decode b_Cells_put 15 = .ok (.aload_n 3, 1) := by decide +kernel
theorem d_Cells_put_16 : decode b_Cells_put 16 = .ok (.iload_n 1, 1) := by decide +kernel
theorem d_Cells_put_17 : decode b_Cells_put 17 = .ok (.iload_n 2, 1) := by decide +kernel
theorem d_Cells_put_18 : decode b_Cells_put 18 = .ok (.invokevirtual 61, 3) := by decide +kernel
theorem d_Cells_put_21 : decode b_Cells_put 21 = .ok (.iconst 1, 1) := by decide +kernel
theorem d_Cells_put_22 : decode b_Cells_put 22 = .ok (.ireturn, 1) := by decide +kernel
theorem d_Cells_put_23 : decode b_Cells_put 23 = .ok (.aload_n 0, 1) := by decide +kernel
theorem d_Cells_put_24 : decode b_Cells_put 24 = .ok (.invokevirtual 65, 3) := by decide +kernel
theorem d_Cells_put_27 : decode b_Cells_put 27 = .ok (.aload_n 0, 1) := by decide +kernel
theorem d_Cells_put_28 : decode b_Cells_put 28 = .ok (.getfield 22, 3) := by decide +kernel
theorem d_Cells_put_31 : decode b_Cells_put 31 = .ok (.if_icmp .lt 5, 3) := by decide +kernel
theorem d_Cells_put_34 : decode b_Cells_put 34 = .ok (.iconst 2, 1) := by decide +kernel
theorem d_Cells_put_35 : decode b_Cells_put 35 = .ok (.ireturn, 1) := by decide +kernel
theorem d_Cells_put_36 : decode b_Cells_put 36 = .ok (.aload_n 0, 1) := by decide +kernel
theorem d_Cells_put_37 : decode b_Cells_put 37 = .ok (.getfield 37, 3) := by decide +kernel
theorem d_Cells_put_40 : decode b_Cells_put 40 = .ok (.iload_n 1, 1) := by decide +kernel
theorem d_Cells_put_41 : decode b_Cells_put 41 = .ok (.iload_n 2, 1) := by decide +kernel
theorem d_Cells_put_42 : decode b_Cells_put 42 = .ok (.invokevirtual 68, 3) := by decide +kernel
theorem d_Cells_put_45 : decode b_Cells_put 45 = .ok (.istore 4, 2) := by decide +kernel
theorem d_Cells_put_47 : decode b_Cells_put 47 = .ok (.aload_n 0, 1) := by decide +kernel
theorem d_Cells_put_48 : decode b_Cells_put 48 = .ok (.aload_n 0, 1) := by decide +kernel
theorem d_Cells_put_49 : decode b_Cells_put 49 = .ok (.getfield 44, 3) := by decide +kernel
theorem d_Cells_put_52 : decode b_Cells_put 52 = .ok (.iload 4, 2) := by decide +kernel
theorem d_Cells_put_54 : decode b_Cells_put 54 = .ok (.invokestatic 15, 3) := by decide +kernel
theorem d_Cells_put_57 : decode b_Cells_put 57 = .ok (.putfield 44, 3) := by decide +kernel
theorem d_Cells_put_60 : decode b_Cells_put 60 = .ok (.iload 4, 2) := by decide +kernel
theorem d_Cells_put_62 : decode b_Cells_put 62 = .ok (.aload_n 0, 1) := by decide +kernel
theorem d_Cells_put_63 : decode b_Cells_put 63 = .ok (.getfield 18, 3) := by decide +kernel
theorem d_Cells_put_66 : decode b_Cells_put 66 = .ok (.if_icmp .le 8, 3) := by decide +kernel
theorem d_Cells_put_69 : decode b_Cells_put 69 = .ok (.aload_n 0, 1) := by decide +kernel
theorem d_Cells_put_70 : decode b_Cells_put 70 = .ok (.invokevirtual 71, 3) := by decide +kernel
theorem d_Cells_put_73 : decode b_Cells_put 73 = .ok (.pop, 1) := by decide +kernel
theorem d_Cells_put_74 : decode b_Cells_put 74 = .ok (.iconst 0, 1) := by decide +kernel
theorem d_Cells_put_75 : decode b_Cells_put 75 = .ok (.ireturn, 1) := by decide +kernel
theorem d_Cells_get_0 : decode b_Cells_get 0 = .ok (.aload_n 0, 1) := by decide +kernel
theorem d_Cells_get_1 : decode b_Cells_get 1 = .ok (.iload_n 1, 1) := by decide +kernel
theorem d_Cells_get_2 : decode b_Cells_get 2 = .ok (.invokevirtual 57, 3) := by decide +kernel
theorem d_Cells_get_5 : decode b_Cells_get 5 = .ok (.astore_n 2, 1) := by decide +kernel
theorem d_Cells_get_6 : decode b_Cells_get 6 = .ok (.aload_n 2, 1) := by decide +kernel
theorem d_Cells_get_7 : decode b_Cells_get 7 = .ok (.ifnonnull 7, 3) := by decide +kernel
theorem d_Cells_get_10 : decode b_Cells_get 10 = .ok (.iconst 0, 1) := by decide +kernel
theorem d_Cells_get_11 : decode b_Cells_get 11 = .ok (.goto 8, 3) := by decide +kernel
theorem d_Cells_get_14 : decode b_Cells_get 14 = .ok (.aload_n 2, 1) := by decide +kernel
theorem d_Cells_get_15 : decode b_Cells_get 15 = .ok (.iload_n 1, 1) := by decide +kernel
theorem d_Cells_get_16 : decode b_Cells_get 16 = .ok (.invokevirtual 74, 3) := by decide +kernel
theorem d_Cells_get_19 : decode b_Cells_get 19 = .ok (.ireturn, 1) := by decide +kernel
theorem d_Cells_has_0 : decode b_Cells_has 0 = .ok (.aload_n 0, 1) := by decide +kernel
theorem d_Cells_has_1 : decode b_Cells_has 1 = .ok (.iload_n 1, 1) := by decide +kernel
theorem d_Cells_has_2 : decode b_Cells_has 2 = .ok (.invokevirtual 57, 3) := by decide +kernel
theorem d_Cells_has_5 : decode b_Cells_has 5 = .ok (.ifnull 7, 3) := by decide +kernel
theorem d_Cells_has_8 : decode b_Cells_has 8 = .ok (.iconst 1, 1) := by decide +kernel
theorem d_Cells_has_9 : decode b_Cells_has 9 = .ok (.goto 4, 3) := by decide +kernel
theorem d_Cells_has_12 : decode b_Cells_has 12 = .ok (.iconst 0, 1) := by decide +kernel
theorem d_Cells_has_13 : decode b_Cells_has 13 = .ok (.ireturn, 1) := by decide +kernel
theorem d_Cells_remove_0 : decode b_Cells_remove 0 = .ok (.aload_n 0, 1) := by decide +kernel
theorem d_Cells_remove_1 : decode b_Cells_remove 1 = .ok (.getfield 37, 3) := by decide +kernel
theorem d_Cells_remove_4 : decode b_Cells_remove 4 = .ok (.iload_n 1, 1) := by decide +kernel
theorem d_Cells_remove_5 : decode b_Cells_remove 5 = .ok (.invokevirtual 78, 3) := by decide +kernel
theorem d_Cells_remove_8 : decode b_Cells_remove 8 = .ok (.istore_n 2, 1) := by decide +kernel
theorem d_Cells_remove_9 : decode b_Cells_remove 9 = .ok (.iload_n 2, 1) := by decide +kernel
theorem d_Cells_remove_10 : decode b_Cells_remove 10 = .ok (.iconst (-1), 1) := by decide +kernel
theorem d_Cells_remove_11 : decode b_Cells_remove 11 = .ok (.if_icmp .eq 13, 3) := by decide +kernel
theorem d_Cells_remove_14 : decode b_Cells_remove 14 = .ok (.aload_n 0, 1) := by decide +kernel
theorem d_Cells_remove_15 : decode b_Cells_remove 15 = .ok (.getfield 37, 3) := by decide +kernel
theorem d_Cells_remove_18 : decode b_Cells_remove 18 = .ok (.iload_n 2, 1) := by decide +kernel
theorem d_Cells_remove_19 : decode b_Cells_remove 19 = .ok (.invokevirtual 81, 3) := by decide +kernel
theorem d_Cells_remove_22 : decode b_Cells_remove 22 = .ok (.iconst 1, 1) := by decide +kernel
theorem d_Cells_remove_23 : decode b_Cells_remove 23 = .ok (.ireturn, 1) := by decide +kernel
theorem d_Cells_remove_24 : decode b_Cells_remove 24 = .ok (.aload_n 0, 1) := by decide +kernel
theorem d_Cells_remove_25 : decode b_Cells_remove 25 = .ok (.getfield 41, 3) := by decide +kernel
theorem d_Cells_remove_28 : decode b_Cells_remove 28 = .ok (.iload_n 1, 1) := by decide +kernel
theorem d_Cells_remove_29 : decode b_Cells_remove 29 = .ok (.invokevirtual 78, 3) := by decide +kernel
theorem d_Cells_remove_32 : decode b_Cells_remove 32 = .ok (.istore_n 2, 1) := by decide +kernel
theorem d_Cells_remove_33 : decode b_Cells_remove 33 = .ok (.iload_n 2, 1) := by decide +kernel
theorem d_Cells_remove_34 : decode b_Cells_remove 34 = .ok (.iconst (-1), 1) := by decide +kernel
theorem d_Cells_remove_35 : decode b_Cells_remove 35 = .ok (.if_icmp .eq 13, 3) := by decide +kernel
theorem d_Cells_remove_38 : decode b_Cells_remove 38 = .ok (.aload_n 0, 1) := by decide +kernel
theorem d_Cells_remove_39 : decode b_Cells_remove 39 = .ok (.getfield 41, 3) := by decide +kernel
theorem d_Cells_remove_42 : decode b_Cells_remove 42 = .ok (.iload_n 2, 1) := by decide +kernel
theorem d_Cells_remove_43 : decode b_Cells_remove 43 = .ok (.invokevirtual 84, 3) := by decide +kernel
theorem d_Cells_remove_46 : decode b_Cells_remove 46 = .ok (.iconst 1, 1) := by decide +kernel
theorem d_Cells_remove_47 : decode b_Cells_remove 47 = .ok (.ireturn, 1) := by decide +kernel
theorem d_Cells_remove_48 : decode b_Cells_remove 48 = .ok (.iconst 0, 1) := by decide +kernel
theorem d_Cells_remove_49 : decode b_Cells_remove 49 = .ok (.ireturn, 1) := by decide +kernel
theorem d_Cells_size_0 : decode b_Cells_size 0 = .ok (.aload_n 0, 1) := by decide +kernel
theorem d_Cells_size_1 : decode b_Cells_size 1 = .ok (.invokevirtual 65, 3) := by decide +kernel
theorem d_Cells_size_4 : decode b_Cells_size 4 = .ok (.ireturn, 1) := by decide +kernel
theorem d_Cells_probeMax_0 : decode b_Cells_probeMax 0 = .ok (.aload_n 0, 1) := by decide +kernel
theorem d_Cells_probeMax_1 : decode b_Cells_probeMax 1 = .ok (.getfield 44, 3) := by decide +kernel
theorem d_Cells_probeMax_4 : decode b_Cells_probeMax 4 = .ok (.ireturn, 1) := by decide +kernel
theorem d_Cells_rekey_0 : decode b_Cells_rekey 0 = .ok (.aload_n 0, 1) := by decide +kernel
theorem d_Cells_rekey_1 : decode b_Cells_rekey 1 = .ok (.invokevirtual 71, 3) := by decide +kernel
theorem d_Cells_rekey_4 : decode b_Cells_rekey 4 = .ok (.ireturn, 1) := by decide +kernel
theorem d_Cells_migrateStep_0 : decode b_Cells_migrateStep 0 = .ok (.aload_n 0, 1) := by decide +kernel
theorem d_Cells_migrateStep_1 : decode b_Cells_migrateStep 1 = .ok (.invokevirtual 53, 3) := by decide +kernel
theorem d_Cells_migrateStep_4 : decode b_Cells_migrateStep 4 = .ok (.pop, 1) := by decide +kernel
theorem d_Cells_migrateStep_5 : decode b_Cells_migrateStep 5 = .ok (.aload_n 0, 1) := by decide +kernel
theorem d_Cells_migrateStep_6 : decode b_Cells_migrateStep 6 = .ok (.getfield 41, 3) := by decide +kernel
theorem d_Cells_migrateStep_9 : decode b_Cells_migrateStep 9 = .ok (.getfield 87, 3) := by decide +kernel
theorem d_Cells_migrateStep_12 : decode b_Cells_migrateStep 12 = .ok (.ireturn, 1) := by decide +kernel
theorem d_Cells_hashLo_0 : decode b_Cells_hashLo 0 = .ok (.aload_n 0, 1) := by decide +kernel
theorem d_Cells_hashLo_1 : decode b_Cells_hashLo 1 = .ok (.getfield 37, 3) := by decide +kernel
theorem d_Cells_hashLo_4 : decode b_Cells_hashLo 4 = .ok (.iload_n 1, 1) := by decide +kernel
theorem d_Cells_hashLo_5 : decode b_Cells_hashLo 5 = .ok (.invokevirtual 90, 3) := by decide +kernel
theorem d_Cells_hashLo_8 : decode b_Cells_hashLo 8 = .ok (.l2i, 1) := by decide +kernel
theorem d_Cells_hashLo_9 : decode b_Cells_hashLo 9 = .ok (.ireturn, 1) := by decide +kernel
theorem d_Cells_hashHi_0 : decode b_Cells_hashHi 0 = .ok (.aload_n 0, 1) := by decide +kernel
theorem d_Cells_hashHi_1 : decode b_Cells_hashHi 1 = .ok (.getfield 37, 3) := by decide +kernel
theorem d_Cells_hashHi_4 : decode b_Cells_hashHi 4 = .ok (.iload_n 1, 1) := by decide +kernel
theorem d_Cells_hashHi_5 : decode b_Cells_hashHi 5 = .ok (.invokevirtual 90, 3) := by decide +kernel
theorem d_Cells_hashHi_8 : decode b_Cells_hashHi 8 = .ok (.bipush 32, 2) := by decide +kernel
theorem d_Cells_hashHi_10 : decode b_Cells_hashHi 10 = .ok (.lushr, 1) := by decide +kernel
theorem d_Cells_hashHi_11 : decode b_Cells_hashHi 11 = .ok (.l2i, 1) := by decide +kernel
theorem d_Cells_hashHi_12 : decode b_Cells_hashHi 12 = .ok (.ireturn, 1) := by decide +kernel
theorem d_Cells_keyWord_0 : decode b_Cells_keyWord 0 = .ok (.iload_n 1, 1) := by decide +kernel
theorem d_Cells_keyWord_1 : decode b_Cells_keyWord 1 = .ok (.ifCond .lt 27, 3) := by decide +kernel
theorem d_Cells_keyWord_4 : decode b_Cells_keyWord 4 = .ok (.iload_n 1, 1) := by decide +kernel
theorem d_Cells_keyWord_5 : decode b_Cells_keyWord 5 = .ok (.aload_n 0, 1) := by decide +kernel
theorem d_Cells_keyWord_6 : decode b_Cells_keyWord 6 = .ok (.getfield 37, 3) := by decide +kernel
theorem d_Cells_keyWord_9 : decode b_Cells_keyWord 9 = .ok (.getfield 94, 3) := by decide +kernel
theorem d_Cells_keyWord_12 : decode b_Cells_keyWord 12 = .ok (.arraylength, 1) := by decide +kernel
theorem d_Cells_keyWord_13 : decode b_Cells_keyWord 13 = .ok (.if_icmp .ge 15, 3) := by decide +kernel
theorem d_Cells_keyWord_16 : decode b_Cells_keyWord 16 = .ok (.aload_n 0, 1) := by decide +kernel
theorem d_Cells_keyWord_17 : decode b_Cells_keyWord 17 = .ok (.getfield 37, 3) := by decide +kernel
theorem d_Cells_keyWord_20 : decode b_Cells_keyWord 20 = .ok (.getfield 94, 3) := by decide +kernel
theorem d_Cells_keyWord_23 : decode b_Cells_keyWord 23 = .ok (.iload_n 1, 1) := by decide +kernel
theorem d_Cells_keyWord_24 : decode b_Cells_keyWord 24 = .ok (.iaload, 1) := by decide +kernel
theorem d_Cells_keyWord_25 : decode b_Cells_keyWord 25 = .ok (.goto 4, 3) := by decide +kernel
theorem d_Cells_keyWord_28 : decode b_Cells_keyWord 28 = .ok (.iconst 0, 1) := by decide +kernel
theorem d_Cells_keyWord_29 : decode b_Cells_keyWord 29 = .ok (.ireturn, 1) := by decide +kernel
theorem d_Cells_nth_0 : decode b_Cells_nth 0 = .ok (.aload_n 0, 1) := by decide +kernel
theorem d_Cells_nth_1 : decode b_Cells_nth 1 = .ok (.getfield 37, 3) := by decide +kernel
theorem d_Cells_nth_4 : decode b_Cells_nth 4 = .ok (.iload_n 1, 1) := by decide +kernel
theorem d_Cells_nth_5 : decode b_Cells_nth 5 = .ok (.invokevirtual 98, 3) := by decide +kernel
theorem d_Cells_nth_8 : decode b_Cells_nth 8 = .ok (.iconst 1, 1) := by decide +kernel
theorem d_Cells_nth_9 : decode b_Cells_nth 9 = .ok (.if_icmp .ne 15, 3) := by decide +kernel
theorem d_Cells_nth_12 : decode b_Cells_nth 12 = .ok (.aload_n 0, 1) := by decide +kernel
theorem d_Cells_nth_13 : decode b_Cells_nth 13 = .ok (.getfield 37, 3) := by decide +kernel
theorem d_Cells_nth_16 : decode b_Cells_nth 16 = .ok (.getfield 101, 3) := by decide +kernel
theorem d_Cells_nth_19 : decode b_Cells_nth 19 = .ok (.iload_n 1, 1) := by decide +kernel
theorem d_Cells_nth_20 : decode b_Cells_nth 20 = .ok (.iaload, 1) := by decide +kernel
theorem d_Cells_nth_21 : decode b_Cells_nth 21 = .ok (.goto 4, 3) := by decide +kernel
theorem d_Cells_nth_24 : decode b_Cells_nth 24 = .ok (.iconst (-1), 1) := by decide +kernel
theorem d_Cells_nth_25 : decode b_Cells_nth 25 = .ok (.ireturn, 1) := by decide +kernel
theorem d_Cells_filled_0 : decode b_Cells_filled 0 = .ok (.iload_n 1, 1) := by decide +kernel
theorem d_Cells_filled_1 : decode b_Cells_filled 1 = .ok (.ifCond .ne 12, 3) := by decide +kernel
theorem d_Cells_filled_4 : decode b_Cells_filled 4 = .ok (.aload_n 0, 1) := by decide +kernel
theorem d_Cells_filled_5 : decode b_Cells_filled 5 = .ok (.getfield 37, 3) := by decide +kernel
theorem d_Cells_filled_8 : decode b_Cells_filled 8 = .ok (.iload_n 2, 1) := by decide +kernel
theorem d_Cells_filled_9 : decode b_Cells_filled 9 = .ok (.invokevirtual 98, 3) := by decide +kernel
theorem d_Cells_filled_12 : decode b_Cells_filled 12 = .ok (.ireturn, 1) := by decide +kernel
theorem d_Cells_filled_13 : decode b_Cells_filled 13 = .ok (.aload_n 0, 1) := by decide +kernel
theorem d_Cells_filled_14 : decode b_Cells_filled 14 = .ok (.getfield 41, 3) := by decide +kernel
theorem d_Cells_filled_17 : decode b_Cells_filled 17 = .ok (.getfield 87, 3) := by decide +kernel
theorem d_Cells_filled_20 : decode b_Cells_filled 20 = .ok (.ifCond .ne 7, 3) := by decide +kernel
theorem d_Cells_filled_23 : decode b_Cells_filled 23 = .ok (.iconst 0, 1) := by decide +kernel
theorem d_Cells_filled_24 : decode b_Cells_filled 24 = .ok (.goto 11, 3) := by decide +kernel
theorem d_Cells_filled_27 : decode b_Cells_filled 27 = .ok (.aload_n 0, 1) := by decide +kernel
theorem d_Cells_filled_28 : decode b_Cells_filled 28 = .ok (.getfield 41, 3) := by decide +kernel
theorem d_Cells_filled_31 : decode b_Cells_filled 31 = .ok (.iload_n 2, 1) := by decide +kernel
theorem d_Cells_filled_32 : decode b_Cells_filled 32 = .ok (.invokevirtual 98, 3) := by decide +kernel
theorem d_Cells_filled_35 : decode b_Cells_filled 35 = .ok (.ireturn, 1) := by decide +kernel
theorem d_Cells_above_0 : decode b_Cells_above 0 = .ok (.aload_n 0, 1) := by decide +kernel
theorem d_Cells_above_1 : decode b_Cells_above 1 = .ok (.getfield 41, 3) := by decide +kernel
theorem d_Cells_above_4 : decode b_Cells_above 4 = .ok (.iload_n 1, 1) := by decide +kernel
theorem d_Cells_above_5 : decode b_Cells_above 5 = .ok (.aload_n 0, 1) := by decide +kernel
theorem d_Cells_above_6 : decode b_Cells_above 6 = .ok (.getfield 37, 3) := by decide +kernel
theorem d_Cells_above_9 : decode b_Cells_above 9 = .ok (.iload_n 1, 1) := by decide +kernel
theorem d_Cells_above_10 : decode b_Cells_above 10 = .ok (.iload_n 1, 1) := by decide +kernel
theorem d_Cells_above_11 : decode b_Cells_above 11 = .ok (.invokevirtual 104, 3) := by decide +kernel
theorem d_Cells_above_14 : decode b_Cells_above 14 = .ok (.invokevirtual 104, 3) := by decide +kernel
theorem d_Cells_above_17 : decode b_Cells_above 17 = .ok (.ireturn, 1) := by decide +kernel
theorem d_Cells_sum_0 : decode b_Cells_sum 0 = .ok (.aload_n 0, 1) := by decide +kernel
theorem d_Cells_sum_1 : decode b_Cells_sum 1 = .ok (.aload_n 0, 1) := by decide +kernel
theorem d_Cells_sum_2 : decode b_Cells_sum 2 = .ok (.getfield 37, 3) := by decide +kernel
theorem d_Cells_sum_5 : decode b_Cells_sum 5 = .ok (.invokevirtual 107, 3) := by decide +kernel
theorem d_Cells_sum_8 : decode b_Cells_sum 8 = .ok (.aload_n 0, 1) := by decide +kernel
theorem d_Cells_sum_9 : decode b_Cells_sum 9 = .ok (.aload_n 0, 1) := by decide +kernel
theorem d_Cells_sum_10 : decode b_Cells_sum 10 = .ok (.getfield 41, 3) := by decide +kernel
theorem d_Cells_sum_13 : decode b_Cells_sum 13 = .ok (.invokevirtual 107, 3) := by decide +kernel
theorem d_Cells_sum_16 : decode b_Cells_sum 16 = .ok (.ladd, 1) := by decide +kernel
theorem d_Cells_sum_17 : decode b_Cells_sum 17 = .ok (.lreturn, 1) := by decide +kernel
theorem d_Cells_rekeys_0 : decode b_Cells_rekeys 0 = .ok (.aload_n 0, 1) := by decide +kernel
theorem d_Cells_rekeys_1 : decode b_Cells_rekeys 1 = .ok (.getfield 47, 3) := by decide +kernel
theorem d_Cells_rekeys_4 : decode b_Cells_rekeys 4 = .ok (.ireturn, 1) := by decide +kernel
theorem d_Cells_boundCount_0 : decode b_Cells_boundCount 0 = .ok (.aload_n 0, 1) := by decide +kernel
theorem d_Cells_boundCount_1 : decode b_Cells_boundCount 1 = .ok (.getfield 37, 3) := by decide +kernel
theorem d_Cells_boundCount_4 : decode b_Cells_boundCount 4 = .ok (.getfield 87, 3) := by decide +kernel
theorem d_Cells_boundCount_7 : decode b_Cells_boundCount 7 = .ok (.aload_n 0, 1) := by decide +kernel
theorem d_Cells_boundCount_8 : decode b_Cells_boundCount 8 = .ok (.getfield 41, 3) := by decide +kernel
theorem d_Cells_boundCount_11 : decode b_Cells_boundCount 11 = .ok (.getfield 87, 3) := by decide +kernel
theorem d_Cells_boundCount_14 : decode b_Cells_boundCount 14 = .ok (.iadd, 1) := by decide +kernel
theorem d_Cells_boundCount_15 : decode b_Cells_boundCount 15 = .ok (.ireturn, 1) := by decide +kernel
theorem d_Cells_holderOf_0 : decode b_Cells_holderOf 0 = .ok (.aload_n 0, 1) := by decide +kernel
theorem d_Cells_holderOf_1 : decode b_Cells_holderOf 1 = .ok (.getfield 37, 3) := by decide +kernel
theorem d_Cells_holderOf_4 : decode b_Cells_holderOf 4 = .ok (.iload_n 1, 1) := by decide +kernel
theorem d_Cells_holderOf_5 : decode b_Cells_holderOf 5 = .ok (.invokevirtual 78, 3) := by decide +kernel
theorem d_Cells_holderOf_8 : decode b_Cells_holderOf 8 = .ok (.iconst (-1), 1) := by decide +kernel
theorem d_Cells_holderOf_9 : decode b_Cells_holderOf 9 = .ok (.if_icmp .eq 8, 3) := by decide +kernel
theorem d_Cells_holderOf_12 : decode b_Cells_holderOf 12 = .ok (.aload_n 0, 1) := by decide +kernel
theorem d_Cells_holderOf_13 : decode b_Cells_holderOf 13 = .ok (.getfield 37, 3) := by decide +kernel
theorem d_Cells_holderOf_16 : decode b_Cells_holderOf 16 = .ok (.areturn, 1) := by decide +kernel
theorem d_Cells_holderOf_17 : decode b_Cells_holderOf 17 = .ok (.aload_n 0, 1) := by decide +kernel
theorem d_Cells_holderOf_18 : decode b_Cells_holderOf 18 = .ok (.getfield 41, 3) := by decide +kernel
theorem d_Cells_holderOf_21 : decode b_Cells_holderOf 21 = .ok (.iload_n 1, 1) := by decide +kernel
theorem d_Cells_holderOf_22 : decode b_Cells_holderOf 22 = .ok (.invokevirtual 78, 3) := by decide +kernel
theorem d_Cells_holderOf_25 : decode b_Cells_holderOf 25 = .ok (.iconst (-1), 1) := by decide +kernel
theorem d_Cells_holderOf_26 : decode b_Cells_holderOf 26 = .ok (.if_icmp .eq 10, 3) := by decide +kernel
theorem d_Cells_holderOf_29 : decode b_Cells_holderOf 29 = .ok (.aload_n 0, 1) := by decide +kernel
theorem d_Cells_holderOf_30 : decode b_Cells_holderOf 30 = .ok (.getfield 41, 3) := by decide +kernel
theorem d_Cells_holderOf_33 : decode b_Cells_holderOf 33 = .ok (.goto 4, 3) := by decide +kernel
theorem d_Cells_holderOf_36 : decode b_Cells_holderOf 36 = .ok (.aconst_null, 1) := by decide +kernel
theorem d_Cells_holderOf_37 : decode b_Cells_holderOf 37 = .ok (.areturn, 1) := by decide +kernel
theorem d_Cells_makeStep_0 : decode b_Cells_makeStep 0 = .ok (.iconst 0, 1) := by decide +kernel
theorem d_Cells_makeStep_1 : decode b_Cells_makeStep 1 = .ok (.istore_n 1, 1) := by decide +kernel
theorem d_Cells_makeStep_2 : decode b_Cells_makeStep 2 = .ok (.iconst 0, 1) := by decide +kernel
theorem d_Cells_makeStep_3 : decode b_Cells_makeStep 3 = .ok (.istore_n 2, 1) := by decide +kernel
theorem d_Cells_makeStep_4 : decode b_Cells_makeStep 4 = .ok (.iload_n 2, 1) := by decide +kernel
theorem d_Cells_makeStep_5 : decode b_Cells_makeStep 5 = .ok (.aload_n 0, 1) := by decide +kernel
theorem d_Cells_makeStep_6 : decode b_Cells_makeStep 6 = .ok (.getfield 41, 3) := by decide +kernel
theorem d_Cells_makeStep_9 : decode b_Cells_makeStep 9 = .ok (.getfield 111, 3) := by decide +kernel
theorem d_Cells_makeStep_12 : decode b_Cells_makeStep 12 = .ok (.if_icmp .gt 77, 3) := by decide +kernel
theorem d_Cells_makeStep_15 : decode b_Cells_makeStep 15 = .ok (.iload_n 1, 1) := by decide +kernel
theorem d_Cells_makeStep_16 : decode b_Cells_makeStep 16 = .ok (.iconst 4, 1) := by decide +kernel
theorem d_Cells_makeStep_17 : decode b_Cells_makeStep 17 = .ok (.if_icmp .eq 72, 3) := by decide +kernel
theorem d_Cells_makeStep_20 : decode b_Cells_makeStep 20 = .ok (.aload_n 0, 1) := by decide +kernel
theorem d_Cells_makeStep_21 : decode b_Cells_makeStep 21 = .ok (.getfield 41, 3) := by decide +kernel
theorem d_Cells_makeStep_24 : decode b_Cells_makeStep 24 = .ok (.getfield 87, 3) := by decide +kernel
theorem d_Cells_makeStep_27 : decode b_Cells_makeStep 27 = .ok (.ifCond .ne 6, 3) := by decide +kernel
theorem d_Cells_makeStep_30 : decode b_Cells_makeStep 30 = .ok (.goto 59, 3) := by decide +kernel
theorem d_Cells_makeStep_33 : decode b_Cells_makeStep 33 = .ok (.aload_n 0, 1) := by decide +kernel
theorem d_Cells_makeStep_34 : decode b_Cells_makeStep 34 = .ok (.getfield 41, 3) := by decide +kernel
theorem d_Cells_makeStep_37 : decode b_Cells_makeStep 37 = .ok (.getfield 114, 3) := by decide +kernel
theorem d_Cells_makeStep_40 : decode b_Cells_makeStep 40 = .ok (.iload_n 2, 1) := by decide +kernel
theorem d_Cells_makeStep_41 : decode b_Cells_makeStep 41 = .ok (.iaload, 1) := by decide +kernel
theorem d_Cells_makeStep_42 : decode b_Cells_makeStep 42 = .ok (.iconst 1, 1) := by decide +kernel
theorem d_Cells_makeStep_43 : decode b_Cells_makeStep 43 = .ok (.if_icmp .ne 40, 3) := by decide +kernel
theorem d_Cells_makeStep_46 : decode b_Cells_makeStep 46 = .ok (.aload_n 0, 1) := by decide +kernel
theorem d_Cells_makeStep_47 : decode b_Cells_makeStep 47 = .ok (.getfield 41, 3) := by decide +kernel
theorem d_Cells_makeStep_50 : decode b_Cells_makeStep 50 = .ok (.iload_n 2, 1) := by decide +kernel
theorem d_Cells_makeStep_51 : decode b_Cells_makeStep 51 = .ok (.invokevirtual 84, 3) := by decide +kernel
theorem d_Cells_makeStep_54 : decode b_Cells_makeStep 54 = .ok (.aload_n 0, 1) := by decide +kernel
theorem d_Cells_makeStep_55 : decode b_Cells_makeStep 55 = .ok (.getfield 37, 3) := by decide +kernel
theorem d_Cells_makeStep_58 : decode b_Cells_makeStep 58 = .ok (.aload_n 0, 1) := by decide +kernel
theorem d_Cells_makeStep_59 : decode b_Cells_makeStep 59 = .ok (.getfield 41, 3) := by decide +kernel
theorem d_Cells_makeStep_62 : decode b_Cells_makeStep 62 = .ok (.getfield 101, 3) := by decide +kernel
theorem d_Cells_makeStep_65 : decode b_Cells_makeStep 65 = .ok (.iload_n 2, 1) := by decide +kernel
theorem d_Cells_makeStep_66 : decode b_Cells_makeStep 66 = .ok (.iaload, 1) := by decide +kernel
theorem d_Cells_makeStep_67 : decode b_Cells_makeStep 67 = .ok (.aload_n 0, 1) := by decide +kernel
theorem d_Cells_makeStep_68 : decode b_Cells_makeStep 68 = .ok (.getfield 41, 3) := by decide +kernel
theorem d_Cells_makeStep_71 : decode b_Cells_makeStep 71 = .ok (.getfield 117, 3) := by decide +kernel
theorem d_Cells_makeStep_74 : decode b_Cells_makeStep 74 = .ok (.iload_n 2, 1) := by decide +kernel
theorem d_Cells_makeStep_75 : decode b_Cells_makeStep 75 = .ok (.iaload, 1) := by decide +kernel
theorem d_Cells_makeStep_76 : decode b_Cells_makeStep 76 = .ok (.invokevirtual 68, 3) := by decide +kernel
theorem d_Cells_makeStep_79 : decode b_Cells_makeStep 79 = .ok (.pop, 1) := by decide +kernel
theorem d_Cells_makeStep_80 : decode b_Cells_makeStep 80 = .ok (.iinc 1 1, 3) := by decide +kernel
theorem d_Cells_makeStep_83 : decode b_Cells_makeStep 83 = .ok (.iinc 2 1, 3) := by decide +kernel
theorem d_Cells_makeStep_86 : decode b_Cells_makeStep 86 = .ok (.goto (-82), 3) := by decide +kernel
theorem d_Cells_makeStep_89 : decode b_Cells_makeStep 89 = .ok (.iload_n 1, 1) := by decide +kernel
theorem d_Cells_makeStep_90 : decode b_Cells_makeStep 90 = .ok (.ireturn, 1) := by decide +kernel
theorem d_Cells_drawNewKey_0 : decode b_Cells_drawNewKey 0 = .ok (.iconst 0, 1) := by decide +kernel
theorem d_Cells_drawNewKey_1 : decode b_Cells_drawNewKey 1 = .ok (.istore_n 1, 1) := by decide +kernel
theorem d_Cells_drawNewKey_2 : decode b_Cells_drawNewKey 2 = .ok (.iconst 0, 1) := by decide +kernel
theorem d_Cells_drawNewKey_3 : decode b_Cells_drawNewKey 3 = .ok (.istore_n 2, 1) := by decide +kernel
theorem d_Cells_drawNewKey_4 : decode b_Cells_drawNewKey 4 = .ok (.iload_n 2, 1) := by decide +kernel
theorem d_Cells_drawNewKey_5 : decode b_Cells_drawNewKey 5 = .ok (.aload_n 0, 1) := by decide +kernel
theorem d_Cells_drawNewKey_6 : decode b_Cells_drawNewKey 6 = .ok (.getfield 41, 3) := by decide +kernel
theorem d_Cells_drawNewKey_9 : decode b_Cells_drawNewKey 9 = .ok (.getfield 111, 3) := by decide +kernel
theorem d_Cells_drawNewKey_12 : decode b_Cells_drawNewKey 12 = .ok (.if_icmp .gt 26, 3) := by decide +kernel
theorem d_Cells_drawNewKey_15 : decode b_Cells_drawNewKey 15 = .ok (.aload_n 0, 1) := by decide +kernel
theorem d_Cells_drawNewKey_16 : decode b_Cells_drawNewKey 16 = .ok (.getfield 41, 3) := by decide +kernel
theorem d_Cells_drawNewKey_19 : decode b_Cells_drawNewKey 19 = .ok (.getfield 87, 3) := by decide +kernel
theorem d_Cells_drawNewKey_22 : decode b_Cells_drawNewKey 22 = .ok (.ifCond .le 16, 3) := by decide +kernel
theorem d_Cells_drawNewKey_25 : decode b_Cells_drawNewKey 25 = .ok (.iload_n 1, 1) := by decide +kernel
theorem d_Cells_drawNewKey_26 : decode b_Cells_drawNewKey 26 = .ok (.aload_n 0, 1) := by decide +kernel
theorem d_Cells_drawNewKey_27 : decode b_Cells_drawNewKey 27 = .ok (.invokevirtual 53, 3) := by decide +kernel
theorem d_Cells_drawNewKey_30 : decode b_Cells_drawNewKey 30 = .ok (.iadd, 1) := by decide +kernel
theorem d_Cells_drawNewKey_31 : decode b_Cells_drawNewKey 31 = .ok (.istore_n 1, 1) := by decide +kernel
theorem d_Cells_drawNewKey_32 : decode b_Cells_drawNewKey 32 = .ok (.iinc 2 1, 3) := by decide +kernel
theorem d_Cells_drawNewKey_35 : decode b_Cells_drawNewKey 35 = .ok (.goto (-31), 3) := by decide +kernel
theorem d_Cells_drawNewKey_38 : decode b_Cells_drawNewKey 38 = .ok (.aload_n 0, 1) := by decide +kernel
theorem d_Cells_drawNewKey_39 : decode b_Cells_drawNewKey 39 = .ok (.getfield 41, 3) := by decide +kernel
theorem d_Cells_drawNewKey_42 : decode b_Cells_drawNewKey 42 = .ok (.astore_n 2, 1) := by decide +kernel
theorem d_Cells_drawNewKey_43 : decode b_Cells_drawNewKey 43 = .ok (.aload_n 0, 1) := by decide +kernel
theorem d_Cells_drawNewKey_44 : decode b_Cells_drawNewKey 44 = .ok (.aload_n 0, 1) := by decide +kernel
theorem d_Cells_drawNewKey_45 : decode b_Cells_drawNewKey 45 = .ok (.getfield 37, 3) := by decide +kernel
theorem d_Cells_drawNewKey_48 : decode b_Cells_drawNewKey 48 = .ok (.putfield 41, 3) := by decide +kernel
theorem d_Cells_drawNewKey_51 : decode b_Cells_drawNewKey 51 = .ok (.aload_n 0, 1) := by decide +kernel
theorem d_Cells_drawNewKey_52 : decode b_Cells_drawNewKey 52 = .ok (.aload_n 2, 1) := by decide +kernel
theorem d_Cells_drawNewKey_53 : decode b_Cells_drawNewKey 53 = .ok (.putfield 37, 3) := by decide +kernel
theorem d_Cells_drawNewKey_56 : decode b_Cells_drawNewKey 56 = .ok (.aload_n 0, 1) := by decide +kernel
theorem d_Cells_drawNewKey_57 : decode b_Cells_drawNewKey 57 = .ok (.invokevirtual 50, 3) := by decide +kernel
theorem d_Cells_drawNewKey_60 : decode b_Cells_drawNewKey 60 = .ok (.aload_n 0, 1) := by decide +kernel
theorem d_Cells_drawNewKey_61 : decode b_Cells_drawNewKey 61 = .ok (.iconst 0, 1) := by decide +kernel
theorem d_Cells_drawNewKey_62 : decode b_Cells_drawNewKey 62 = .ok (.putfield 44, 3) := by decide +kernel
theorem d_Cells_drawNewKey_65 : decode b_Cells_drawNewKey 65 = .ok (.aload_n 0, 1) := by decide +kernel
theorem d_Cells_drawNewKey_66 : decode b_Cells_drawNewKey 66 = .ok (.dup, 1) := by decide +kernel
theorem d_Cells_drawNewKey_67 : decode b_Cells_drawNewKey 67 = .ok (.getfield 47, 3) := by decide +kernel
theorem d_Cells_drawNewKey_70 : decode b_Cells_drawNewKey 70 = .ok (.iconst 1, 1) := by decide +kernel
theorem d_Cells_drawNewKey_71 : decode b_Cells_drawNewKey 71 = .ok (.iadd, 1) := by decide +kernel
theorem d_Cells_drawNewKey_72 : decode b_Cells_drawNewKey 72 = .ok (.putfield 47, 3) := by decide +kernel
theorem d_Cells_drawNewKey_75 : decode b_Cells_drawNewKey 75 = .ok (.iload_n 1, 1) := by decide +kernel
theorem d_Cells_drawNewKey_76 : decode b_Cells_drawNewKey 76 = .ok (.ireturn, 1) := by decide +kernel
theorem d_Cells_beginNewTable_0 : decode b_Cells_beginNewTable 0 = .ok (.aload_n 0, 1) := by decide +kernel
theorem d_Cells_beginNewTable_1 : decode b_Cells_beginNewTable 1 = .ok (.getfield 37, 3) := by decide +kernel
theorem d_Cells_beginNewTable_4 : decode b_Cells_beginNewTable 4 = .ok (.invokevirtual 120, 3) := by decide +kernel
theorem d_Cells_beginNewTable_7 : decode b_Cells_beginNewTable 7 = .ok (.iconst 0, 1) := by decide +kernel
theorem d_Cells_beginNewTable_8 : decode b_Cells_beginNewTable 8 = .ok (.istore_n 1, 1) := by decide +kernel
theorem d_Cells_beginNewTable_9 : decode b_Cells_beginNewTable 9 = .ok (.iload_n 1, 1) := by decide +kernel
theorem d_Cells_beginNewTable_10 : decode b_Cells_beginNewTable 10 = .ok (.aload_n 0, 1) := by decide +kernel
theorem d_Cells_beginNewTable_11 : decode b_Cells_beginNewTable 11 = .ok (.getfield 37, 3) := by decide +kernel
theorem d_Cells_beginNewTable_14 : decode b_Cells_beginNewTable 14 = .ok (.getfield 94, 3) := by decide +kernel
theorem d_Cells_beginNewTable_17 : decode b_Cells_beginNewTable 17 = .ok (.arraylength, 1) := by decide +kernel
theorem d_Cells_beginNewTable_18 : decode b_Cells_beginNewTable 18 = .ok (.if_icmp .ge 25, 3) := by decide +kernel
theorem d_Cells_beginNewTable_21 : decode b_Cells_beginNewTable 21 = .ok (.aload_n 0, 1) := by decide +kernel
theorem d_Cells_beginNewTable_22 : decode b_Cells_beginNewTable 22 = .ok (.getfield 37, 3) := by decide +kernel
theorem d_Cells_beginNewTable_25 : decode b_Cells_beginNewTable 25 = .ok (.getfield 94, 3) := by decide +kernel
theorem d_Cells_beginNewTable_28 : decode b_Cells_beginNewTable 28 = .ok (.iload_n 1, 1) := by decide +kernel
theorem d_Cells_beginNewTable_29 : decode b_Cells_beginNewTable 29 = .ok (.aload_n 0, 1) := by decide +kernel
theorem d_Cells_beginNewTable_30 : decode b_Cells_beginNewTable 30 = .ok (.getfield 30, 3) := by decide +kernel
theorem d_Cells_beginNewTable_33 : decode b_Cells_beginNewTable 33 = .ok (.invokevirtual 123, 3) := by decide +kernel
theorem d_Cells_beginNewTable_36 : decode b_Cells_beginNewTable 36 = .ok (.iastore, 1) := by decide +kernel
theorem d_Cells_beginNewTable_37 : decode b_Cells_beginNewTable 37 = .ok (.iinc 1 1, 3) := by decide +kernel
theorem d_Cells_beginNewTable_40 : decode b_Cells_beginNewTable 40 = .ok (.goto (-31), 3) := by decide +kernel
theorem d_Cells_beginNewTable_43 : decode b_Cells_beginNewTable 43 = .ok (.return_, 1) := by decide +kernel
theorem d_Cells_sumOver_0 : decode b_Cells_sumOver 0 = .ok (.lconst 0, 1) := by decide +kernel
theorem d_Cells_sumOver_1 : decode b_Cells_sumOver 1 = .ok (.lstore_n 2, 1) := by decide +kernel
theorem d_Cells_sumOver_2 : decode b_Cells_sumOver 2 = .ok (.iconst 0, 1) := by decide +kernel
theorem d_Cells_sumOver_3 : decode b_Cells_sumOver 3 = .ok (.istore 4, 2) := by decide +kernel
theorem d_Cells_sumOver_5 : decode b_Cells_sumOver 5 = .ok (.iload 4, 2) := by decide +kernel
theorem d_Cells_sumOver_7 : decode b_Cells_sumOver 7 = .ok (.aload_n 1, 1) := by decide +kernel
theorem d_Cells_sumOver_8 : decode b_Cells_sumOver 8 = .ok (.getfield 111, 3) := by decide +kernel
theorem d_Cells_sumOver_11 : decode b_Cells_sumOver 11 = .ok (.if_icmp .gt 52, 3) := by decide +kernel
theorem d_Cells_sumOver_14 : decode b_Cells_sumOver 14 = .ok (.aload_n 1, 1) := by decide +kernel
theorem d_Cells_sumOver_15 : decode b_Cells_sumOver 15 = .ok (.getfield 114, 3) := by decide +kernel
theorem d_Cells_sumOver_18 : decode b_Cells_sumOver 18 = .ok (.iload 4, 2) := by decide +kernel
theorem d_Cells_sumOver_20 : decode b_Cells_sumOver 20 = .ok (.iaload, 1) := by decide +kernel
theorem d_Cells_sumOver_21 : decode b_Cells_sumOver 21 = .ok (.iconst 1, 1) := by decide +kernel
theorem d_Cells_sumOver_22 : decode b_Cells_sumOver 22 = .ok (.if_icmp .ne 35, 3) := by decide +kernel
theorem d_Cells_sumOver_25 : decode b_Cells_sumOver 25 = .ok (.lload_n 2, 1) := by decide +kernel
theorem d_Cells_sumOver_26 : decode b_Cells_sumOver 26 = .ok (.aload_n 0, 1) := by decide +kernel
theorem d_Cells_sumOver_27 : decode b_Cells_sumOver 27 = .ok (.getfield 37, 3) := by decide +kernel
theorem d_Cells_sumOver_30 : decode b_Cells_sumOver 30 = .ok (.aload_n 1, 1) := by decide +kernel
theorem d_Cells_sumOver_31 : decode b_Cells_sumOver 31 = .ok (.getfield 101, 3) := by decide +kernel
theorem d_Cells_sumOver_34 : decode b_Cells_sumOver 34 = .ok (.iload 4, 2) := by decide +kernel
theorem d_Cells_sumOver_36 : decode b_Cells_sumOver 36 = .ok (.iaload, 1) := by decide +kernel
theorem d_Cells_sumOver_37 : decode b_Cells_sumOver 37 = .ok (.invokevirtual 90, 3) := by decide +kernel
theorem d_Cells_sumOver_40 : decode b_Cells_sumOver 40 = .ok (.ldc2_w 126, 3) := by decide +kernel
theorem d_Cells_sumOver_43 : decode b_Cells_sumOver 43 = .ok (.aload_n 1, 1) := by decide +kernel
theorem d_Cells_sumOver_44 : decode b_Cells_sumOver 44 = .ok (.getfield 117, 3) := by decide +kernel
theorem d_Cells_sumOver_47 : decode b_Cells_sumOver 47 = .ok (.iload 4, 2) := by decide +kernel
theorem d_Cells_sumOver_49 : decode b_Cells_sumOver 49 = .ok (.iaload, 1) := by decide +kernel
theorem d_Cells_sumOver_50 : decode b_Cells_sumOver 50 = .ok (.i2l, 1) := by decide +kernel
theorem d_Cells_sumOver_51 : decode b_Cells_sumOver 51 = .ok (.lmul, 1) := by decide +kernel
theorem d_Cells_sumOver_52 : decode b_Cells_sumOver 52 = .ok (.lconst 1, 1) := by decide +kernel
theorem d_Cells_sumOver_53 : decode b_Cells_sumOver 53 = .ok (.ladd, 1) := by decide +kernel
theorem d_Cells_sumOver_54 : decode b_Cells_sumOver 54 = .ok (.lmul, 1) := by decide +kernel
theorem d_Cells_sumOver_55 : decode b_Cells_sumOver 55 = .ok (.ladd, 1) := by decide +kernel
theorem d_Cells_sumOver_56 : decode b_Cells_sumOver 56 = .ok (.lstore_n 2, 1) := by decide +kernel
theorem d_Cells_sumOver_57 : decode b_Cells_sumOver 57 = .ok (.iinc 4 1, 3) := by decide +kernel
theorem d_Cells_sumOver_60 : decode b_Cells_sumOver 60 = .ok (.goto (-55), 3) := by decide +kernel
theorem d_Cells_sumOver_63 : decode b_Cells_sumOver 63 = .ok (.lload_n 2, 1) := by decide +kernel
theorem d_Cells_sumOver_64 : decode b_Cells_sumOver 64 = .ok (.lreturn, 1) := by decide +kernel
