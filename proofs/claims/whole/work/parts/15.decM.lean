theorem d_Model_init_0 : decode b_Model_init 0 = .ok (.aload_n 0, 1) := by decide +kernel
theorem d_Model_init_1 : decode b_Model_init 1 = .ok (.invokespecial 1, 3) := by decide +kernel
theorem d_Model_init_4 : decode b_Model_init 4 = .ok (.aload_n 0, 1) := by decide +kernel
theorem d_Model_init_5 : decode b_Model_init 5 = .ok (.iconst 4, 1) := by decide +kernel
theorem d_Model_init_6 : decode b_Model_init 6 = .ok (.newarray .int, 2) := by decide +kernel
theorem d_Model_init_8 : decode b_Model_init 8 = .ok (.putfield 7, 3) := by decide +kernel
theorem d_Model_init_11 : decode b_Model_init 11 = .ok (.aload_n 0, 1) := by decide +kernel
theorem d_Model_init_12 : decode b_Model_init 12 = .ok (.sipush 128, 3) := by decide +kernel
theorem d_Model_init_15 : decode b_Model_init 15 = .ok (.newarray .int, 2) := by decide +kernel
theorem d_Model_init_17 : decode b_Model_init 17 = .ok (.putfield 13, 3) := by decide +kernel
theorem d_Model_init_20 : decode b_Model_init 20 = .ok (.aload_n 0, 1) := by decide +kernel
theorem d_Model_init_21 : decode b_Model_init 21 = .ok (.sipush 128, 3) := by decide +kernel
theorem d_Model_init_24 : decode b_Model_init 24 = .ok (.newarray .int, 2) := by decide +kernel
theorem d_Model_init_26 : decode b_Model_init 26 = .ok (.putfield 16, 3) := by decide +kernel
theorem d_Model_init_29 : decode b_Model_init 29 = .ok (.aload_n 0, 1) := by decide +kernel
theorem d_Model_init_30 : decode b_Model_init 30 = .ok (.sipush 128, 3) := by decide +kernel
theorem d_Model_init_33 : decode b_Model_init 33 = .ok (.newarray .int, 2) := by decide +kernel
theorem d_Model_init_35 : decode b_Model_init 35 = .ok (.putfield 19, 3) := by decide +kernel
theorem d_Model_init_38 : decode b_Model_init 38 = .ok (.aload_n 0, 1) := by decide +kernel
theorem d_Model_init_39 : decode b_Model_init 39 = .ok (.sipush 128, 3) := by decide +kernel
theorem d_Model_init_42 : decode b_Model_init 42 = .ok (.newarray .int, 2) := by decide +kernel
theorem d_Model_init_44 : decode b_Model_init 44 = .ok (.putfield 22, 3) := by decide +kernel
theorem d_Model_init_47 : decode b_Model_init 47 = .ok (.aload_n 0, 1) := by decide +kernel
theorem d_Model_init_48 : decode b_Model_init 48 = .ok (.sipush 128, 3) := by decide +kernel
theorem d_Model_init_51 : decode b_Model_init 51 = .ok (.newarray .int, 2) := by decide +kernel
theorem d_Model_init_53 : decode b_Model_init 53 = .ok (.putfield 25, 3) := by decide +kernel
theorem d_Model_init_56 : decode b_Model_init 56 = .ok (.aload_n 0, 1) := by decide +kernel
theorem d_Model_init_57 : decode b_Model_init 57 = .ok (.sipush 128, 3) := by decide +kernel
theorem d_Model_init_60 : decode b_Model_init 60 = .ok (.newarray .int, 2) := by decide +kernel
theorem d_Model_init_62 : decode b_Model_init 62 = .ok (.putfield 28, 3) := by decide +kernel
theorem d_Model_init_65 : decode b_Model_init 65 = .ok (.aload_n 0, 1) := by decide +kernel
theorem d_Model_init_66 : decode b_Model_init 66 = .ok (.iconst 1, 1) := by decide +kernel
theorem d_Model_init_67 : decode b_Model_init 67 = .ok (.iload_n 2, 1) := by decide +kernel
theorem d_Model_init_68 : decode b_Model_init 68 = .ok (.iconst 3, 1) := by decide +kernel
theorem d_Model_init_69 : decode b_Model_init 69 = .ok (.if_icmp .ge 7, 3) := by decide +kernel
theorem d_Model_init_72 : decode b_Model_init 72 = .ok (.iconst 3, 1) := by decide +kernel
theorem d_Model_init_73 : decode b_Model_init 73 = .ok (.goto 15, 3) := by decide +kernel
theorem d_Model_init_76 : decode b_Model_init 76 = .ok (.iload_n 2, 1) := by decide +kernel
theorem d_Model_init_77 : decode b_Model_init 77 = .ok (.bipush 7, 2) := by decide +kernel
theorem d_Model_init_79 : decode b_Model_init 79 = .ok (.if_icmp .le 8, 3) := by decide +kernel
theorem d_Model_init_82 : decode b_Model_init 82 = .ok (.bipush 7, 2) := by decide +kernel
theorem d_Model_init_84 : decode b_Model_init 84 = .ok (.goto 4, 3) := by decide +kernel
theorem d_Model_init_87 : decode b_Model_init 87 = .ok (.iload_n 2, 1) := by decide +kernel
theorem d_Model_init_88 : decode b_Model_init 88 = .ok (.ishl, 1) := by decide +kernel
theorem d_Model_init_89 : decode b_Model_init 89 = .ok (.putfield 31, 3) := by decide +kernel
theorem d_Model_init_92 : decode b_Model_init 92 = .ok (.aload_n 0, 1) := by decide +kernel
theorem d_Model_init_93 : decode b_Model_init 93 = .ok (.iload_n 3, 1) := by decide +kernel
theorem d_Model_init_94 : decode b_Model_init 94 = .ok (.iconst 2, 1) := by decide +kernel
theorem d_Model_init_95 : decode b_Model_init 95 = .ok (.if_icmp .ge 7, 3) := by decide +kernel
theorem d_Model_init_98 : decode b_Model_init 98 = .ok (.iconst 2, 1) := by decide +kernel
theorem d_Model_init_99 : decode b_Model_init 99 = .ok (.goto 15, 3) := by decide +kernel
theorem d_Model_init_102 : decode b_Model_init 102 = .ok (.iload_n 3, 1) := by decide +kernel
theorem d_Model_init_103 : decode b_Model_init 103 = .ok (.bipush 64, 2) := by decide +kernel
theorem d_Model_init_105 : decode b_Model_init 105 = .ok (.if_icmp .le 8, 3) := by decide +kernel
theorem d_Model_init_108 : decode b_Model_init 108 = .ok (.bipush 64, 2) := by decide +kernel
theorem d_Model_init_110 : decode b_Model_init 110 = .ok (.goto 4, 3) := by decide +kernel
theorem d_Model_init_113 : decode b_Model_init 113 = .ok (.iload_n 3, 1) := by decide +kernel
theorem d_Model_init_114 : decode b_Model_init 114 = .ok (.putfield 35, 3) := by decide +kernel
theorem d_Model_init_117 : decode b_Model_init 117 = .ok (.aload_n 0, 1) := by decide +kernel
theorem d_Model_init_118 : decode b_Model_init 118 = .ok (.iload_n 1, 1) := by decide +kernel
theorem d_Model_init_119 : decode b_Model_init 119 = .ok (.ldc 38, 2) := by decide +kernel
theorem d_Model_init_121 : decode b_Model_init 121 = .ok (.iadd, 1) := by decide +kernel
theorem d_Model_init_122 : decode b_Model_init 122 = .ok (.invokestatic 39, 3) := by decide +kernel
theorem d_Model_init_125 : decode b_Model_init 125 = .ok (.putfield 43, 3) := by decide +kernel
theorem d_Model_init_128 : decode b_Model_init 128 = .ok (.aload_n 0, 1) := by decide +kernel
theorem d_Model_init_129 : decode b_Model_init 129 = .ok (.iload_n 1, 1) := by decide +kernel
theorem d_Model_init_130 : decode b_Model_init 130 = .ok (.ldc 46, 2) := by decide +kernel
theorem d_Model_init_132 : decode b_Model_init 132 = .ok (.iadd, 1) := by decide +kernel
theorem d_Model_init_133 : decode b_Model_init 133 = .ok (.invokestatic 39, 3) := by decide +kernel
theorem d_Model_init_136 : decode b_Model_init 136 = .ok (.putfield 47, 3) := by decide +kernel
theorem d_Model_init_139 : decode b_Model_init 139 = .ok (.aload_n 0, 1) := by decide +kernel
theorem d_Model_init_140 : decode b_Model_init 140 = .ok (.iload_n 1, 1) := by decide +kernel
theorem d_Model_init_141 : decode b_Model_init 141 = .ok (.ldc 50, 2) := by decide +kernel
theorem d_Model_init_143 : decode b_Model_init 143 = .ok (.iadd, 1) := by decide +kernel
theorem d_Model_init_144 : decode b_Model_init 144 = .ok (.invokestatic 39, 3) := by decide +kernel
theorem d_Model_init_147 : decode b_Model_init 147 = .ok (.putfield 51, 3) := by decide +kernel
theorem d_Model_init_150 : decode b_Model_init 150 = .ok (.aload_n 0, 1) := by decide +kernel
theorem d_Model_init_151 : decode b_Model_init 151 = .ok (.iload_n 1, 1) := by decide +kernel
theorem d_Model_init_152 : decode b_Model_init 152 = .ok (.ldc 54, 2) := by decide +kernel
theorem d_Model_init_154 : decode b_Model_init 154 = .ok (.iadd, 1) := by decide +kernel
theorem d_Model_init_155 : decode b_Model_init 155 = .ok (.invokestatic 39, 3) := by decide +kernel
theorem d_Model_init_158 : decode b_Model_init 158 = .ok (.putfield 55, 3) := by decide +kernel
theorem d_Model_init_161 : decode b_Model_init 161 = .ok (.aload_n 0, 1) := by decide +kernel
theorem d_Model_init_162 : decode b_Model_init 162 = .ok (.getfield 43, 3) := by decide +kernel
theorem d_Model_init_165 : decode b_Model_init 165 = .ok (.aload_n 0, 1) := by decide +kernel
theorem d_Model_init_166 : decode b_Model_init 166 = .ok (.getfield 47, 3) := by decide +kernel
theorem d_Model_init_169 : decode b_Model_init 169 = .ok (.ior, 1) := by decide +kernel
theorem d_Model_init_170 : decode b_Model_init 170 = .ok (.aload_n 0, 1) := by decide +kernel
theorem d_Model_init_171 : decode b_Model_init 171 = .ok (.getfield 51, 3) := by decide +kernel
theorem d_Model_init_174 : decode b_Model_init 174 = .ok (.ior, 1) := by decide +kernel
theorem d_Model_init_175 : decode b_Model_init 175 = .ok (.aload_n 0, 1) := by decide +kernel
theorem d_Model_init_176 : decode b_Model_init 176 = .ok (.getfield 55, 3) := by decide +kernel
theorem d_Model_init_179 : decode b_Model_init 179 = .ok (.ior, 1) := by decide +kernel
theorem d_Model_init_180 : decode b_Model_init 180 = .ok (.ifCond .ne 8, 3) := by decide +kernel
theorem d_Model_init_183 : decode b_Model_init 183 = .ok (.aload_n 0, 1) := by decide +kernel
theorem d_Model_init_184 : decode b_Model_init 184 = .ok (.iconst 1, 1) := by decide +kernel
theorem d_Model_init_185 : decode b_Model_init 185 = .ok (.putfield 43, 3) := by decide +kernel
theorem d_Model_init_188 : decode b_Model_init 188 = .ok (.aload_n 0, 1) := by decide +kernel
theorem d_Model_init_189 : decode b_Model_init 189 = .ok (.invokevirtual 58, 3) := by decide +kernel
theorem d_Model_init_192 : decode b_Model_init 192 = .ok (.return_, 1) := by decide +kernel
theorem d_Model_mixed_0 : decode b_Model_mixed 0 = .ok (.iload_n 0, 1) := by decide +kernel
theorem d_Model_mixed_1 : decode b_Model_mixed 1 = .ok (.iload_n 0, 1) := by decide +kernel
theorem d_Model_mixed_2 : decode b_Model_mixed 2 = .ok (.bipush 16, 2) := by decide +kernel
theorem d_Model_mixed_4 : decode b_Model_mixed 4 = .ok (.iushr, 1) := by decide +kernel
theorem d_Model_mixed_5 : decode b_Model_mixed 5 = .ok (.ixor, 1) := by decide +kernel
theorem d_Model_mixed_6 : decode b_Model_mixed 6 = .ok (.ldc 61, 2) := by decide +kernel
theorem d_Model_mixed_8 : decode b_Model_mixed 8 = .ok (.imul, 1) := by decide +kernel
theorem d_Model_mixed_9 : decode b_Model_mixed 9 = .ok (.istore_n 1, 1) := by decide +kernel
theorem d_Model_mixed_10 : decode b_Model_mixed 10 = .ok (.iload_n 1, 1) := by decide +kernel
theorem d_Model_mixed_11 : decode b_Model_mixed 11 = .ok (.iload_n 1, 1) := by decide +kernel
theorem d_Model_mixed_12 : decode b_Model_mixed 12 = .ok (.bipush 13, 2) := by decide +kernel
theorem d_Model_mixed_14 : decode b_Model_mixed 14 = .ok (.iushr, 1) := by decide +kernel
theorem d_Model_mixed_15 : decode b_Model_mixed 15 = .ok (.ixor, 1) := by decide +kernel
theorem d_Model_mixed_16 : decode b_Model_mixed 16 = .ok (.ldc 62, 2) := by decide +kernel
theorem d_Model_mixed_18 : decode b_Model_mixed 18 = .ok (.imul, 1) := by decide +kernel
theorem d_Model_mixed_19 : decode b_Model_mixed 19 = .ok (.istore_n 1, 1) := by decide +kernel
theorem d_Model_mixed_20 : decode b_Model_mixed 20 = .ok (.iload_n 1, 1) := by decide +kernel
theorem d_Model_mixed_21 : decode b_Model_mixed 21 = .ok (.iload_n 1, 1) := by decide +kernel
theorem d_Model_mixed_22 : decode b_Model_mixed 22 = .ok (.bipush 16, 2) := by decide +kernel
theorem d_Model_mixed_24 : decode b_Model_mixed 24 = .ok (.iushr, 1) := by decide +kernel
theorem d_Model_mixed_25 : decode b_Model_mixed 25 = .ok (.ixor, 1) := by decide +kernel
theorem d_Model_mixed_26 : decode b_Model_mixed 26 = .ok (.ireturn, 1) := by decide +kernel
theorem d_Model_turned_0 : decode b_Model_turned 0 = .ok (.iload_n 0, 1) := by decide +kernel
theorem d_Model_turned_1 : decode b_Model_turned 1 = .ok (.iload_n 1, 1) := by decide +kernel
theorem d_Model_turned_2 : decode b_Model_turned 2 = .ok (.ishl, 1) := by decide +kernel
theorem d_Model_turned_3 : decode b_Model_turned 3 = .ok (.iload_n 0, 1) := by decide +kernel
theorem d_Model_turned_4 : decode b_Model_turned 4 = .ok (.bipush 32, 2) := by decide +kernel
theorem d_Model_turned_6 : decode b_Model_turned 6 = .ok (.iload_n 1, 1) := by decide +kernel
theorem d_Model_turned_7 : decode b_Model_turned 7 = .ok (.isub, 1) := by decide +kernel
theorem d_Model_turned_8 : decode b_Model_turned 8 = .ok (.iushr, 1) := by decide +kernel
theorem d_Model_turned_9 : decode b_Model_turned 9 = .ok (.ior, 1) := by decide +kernel
theorem d_Model_turned_10 : decode b_Model_turned 10 = .ok (.ireturn, 1) := by decide +kernel
theorem d_Model_draw_0 : decode b_Model_draw 0 = .ok (.aload_n 0, 1) := by decide +kernel
theorem d_Model_draw_1 : decode b_Model_draw 1 = .ok (.getfield 47, 3) := by decide +kernel
theorem d_Model_draw_4 : decode b_Model_draw 4 = .ok (.iconst 5, 1) := by decide +kernel
theorem d_Model_draw_5 : decode b_Model_draw 5 = .ok (.imul, 1) := by decide +kernel
theorem d_Model_draw_6 : decode b_Model_draw 6 = .ok (.bipush 7, 2) := by decide +kernel
theorem d_Model_draw_8 : decode b_Model_draw 8 = .ok (.invokestatic 63, 3) := by decide +kernel
theorem d_Model_draw_11 : decode b_Model_draw 11 = .ok (.bipush 9, 2) := by decide +kernel
theorem d_Model_draw_13 : decode b_Model_draw 13 = .ok (.imul, 1) := by decide +kernel
theorem d_Model_draw_14 : decode b_Model_draw 14 = .ok (.istore_n 1, 1) := by decide +kernel
theorem d_Model_draw_15 : decode b_Model_draw 15 = .ok (.aload_n 0, 1) := by decide +kernel
theorem d_Model_draw_16 : decode b_Model_draw 16 = .ok (.getfield 47, 3) := by decide +kernel
theorem d_Model_draw_19 : decode b_Model_draw 19 = .ok (.bipush 9, 2) := by decide +kernel
theorem d_Model_draw_21 : decode b_Model_draw 21 = .ok (.ishl, 1) := by decide +kernel
theorem d_Model_draw_22 : decode b_Model_draw 22 = .ok (.istore_n 2, 1) := by decide +kernel
theorem d_Model_draw_23 : decode b_Model_draw 23 = .ok (.aload_n 0, 1) := by decide +kernel
theorem d_Model_draw_24 : decode b_Model_draw 24 = .ok (.aload_n 0, 1) := by decide +kernel
theorem d_Model_draw_25 : decode b_Model_draw 25 = .ok (.getfield 51, 3) := by decide +kernel
theorem d_Model_draw_28 : decode b_Model_draw 28 = .ok (.aload_n 0, 1) := by decide +kernel
theorem d_Model_draw_29 : decode b_Model_draw 29 = .ok (.getfield 43, 3) := by decide +kernel
theorem d_Model_draw_32 : decode b_Model_draw 32 = .ok (.ixor, 1) := by decide +kernel
theorem d_Model_draw_33 : decode b_Model_draw 33 = .ok (.putfield 51, 3) := by decide +kernel
theorem d_Model_draw_36 : decode b_Model_draw 36 = .ok (.aload_n 0, 1) := by decide +kernel
theorem d_Model_draw_37 : decode b_Model_draw 37 = .ok (.aload_n 0, 1) := by decide +kernel
theorem d_Model_draw_38 : decode b_Model_draw 38 = .ok (.getfield 55, 3) := by decide +kernel
theorem d_Model_draw_41 : decode b_Model_draw 41 = .ok (.aload_n 0, 1) := by decide +kernel
theorem d_Model_draw_42 : decode b_Model_draw 42 = .ok (.getfield 47, 3) := by decide +kernel
theorem d_Model_draw_45 : decode b_Model_draw 45 = .ok (.ixor, 1) := by decide +kernel
theorem d_Model_draw_46 : decode b_Model_draw 46 = .ok (.putfield 55, 3) := by decide +kernel
theorem d_Model_draw_49 : decode b_Model_draw 49 = .ok (.aload_n 0, 1) := by decide +kernel
theorem d_Model_draw_50 : decode b_Model_draw 50 = .ok (.aload_n 0, 1) := by decide +kernel
theorem d_Model_draw_51 : decode b_Model_draw 51 = .ok (.getfield 47, 3) := by decide +kernel
theorem d_Model_draw_54 : decode b_Model_draw 54 = .ok (.aload_n 0, 1) := by decide +kernel
theorem d_Model_draw_55 : decode b_Model_draw 55 = .ok (.getfield 51, 3) := by decide +kernel
theorem d_Model_draw_58 : decode b_Model_draw 58 = .ok (.ixor, 1) := by decide +kernel
theorem d_Model_draw_59 : decode b_Model_draw 59 = .ok (.putfield 47, 3) := by decide +kernel
theorem d_Model_draw_62 : decode b_Model_draw 62 = .ok (.aload_n 0, 1) := by decide +kernel
theorem d_Model_draw_63 : decode b_Model_draw 63 = .ok (.aload_n 0, 1) := by decide +kernel
theorem d_Model_draw_64 : decode b_Model_draw 64 = .ok (.getfield 43, 3) := by decide +kernel
theorem d_Model_draw_67 : decode b_Model_draw 67 = .ok (.aload_n 0, 1) := by decide +kernel
theorem d_Model_draw_68 : decode b_Model_draw 68 = .ok (.getfield 55, 3) := by decide +kernel
theorem d_Model_draw_71 : decode b_Model_draw 71 = .ok (.ixor, 1) := by decide +kernel
theorem d_Model_draw_72 : decode b_Model_draw 72 = .ok (.putfield 43, 3) := by decide +kernel
theorem d_Model_draw_75 : decode b_Model_draw 75 = .ok (.aload_n 0, 1) := by decide +kernel
theorem d_Model_draw_76 : decode b_Model_draw 76 = .ok (.aload_n 0, 1) := by decide +kernel
theorem d_Model_draw_77 : decode b_Model_draw 77 = .ok (.getfield 51, 3) := by decide +kernel
theorem d_Model_draw_80 : decode b_Model_draw 80 = .ok (.iload_n 2, 1) := by decide +kernel
theorem d_Model_draw_81 : decode b_Model_draw 81 = .ok (.ixor, 1) := by decide +kernel
theorem d_Model_draw_82 : decode b_Model_draw 82 = .ok (.putfield 51, 3) := by decide +kernel
theorem d_Model_draw_85 : decode b_Model_draw 85 = .ok (.aload_n 0, 1) := by decide +kernel
theorem d_Model_draw_86 : decode b_Model_draw 86 = .ok (.aload_n 0, 1) := by decide +kernel
theorem d_Model_draw_87 : decode b_Model_draw 87 = .ok (.getfield 55, 3) := by decide +kernel
theorem d_Model_draw_90 : decode b_Model_draw 90 = .ok (.bipush 11, 2) := by decide +kernel
theorem d_Model_draw_92 : decode b_Model_draw 92 = .ok (.invokestatic 63, 3) := by decide +kernel
theorem d_Model_draw_95 : decode b_Model_draw 95 = .ok (.putfield 55, 3) := by decide +kernel
theorem d_Model_draw_98 : decode b_Model_draw 98 = .ok (.iload_n 1, 1) := by decide +kernel
theorem d_Model_draw_99 : decode b_Model_draw 99 = .ok (.ireturn, 1) := by decide +kernel
theorem d_Model_joined_0 : decode b_Model_joined 0 = .ok (.iload_n 1, 1) := by decide +kernel
theorem d_Model_joined_1 : decode b_Model_joined 1 = .ok (.i2l, 1) := by decide +kernel
theorem d_Model_joined_2 : decode b_Model_joined 2 = .ok (.bipush 32, 2) := by decide +kernel
theorem d_Model_joined_4 : decode b_Model_joined 4 = .ok (.lshl, 1) := by decide +kernel
theorem d_Model_joined_5 : decode b_Model_joined 5 = .ok (.iload_n 0, 1) := by decide +kernel
theorem d_Model_joined_6 : decode b_Model_joined 6 = .ok (.i2l, 1) := by decide +kernel
theorem d_Model_joined_7 : decode b_Model_joined 7 = .ok (.ldc2_w 67, 3) := by decide +kernel
theorem d_Model_joined_10 : decode b_Model_joined 10 = .ok (.land, 1) := by decide +kernel
theorem d_Model_joined_11 : decode b_Model_joined 11 = .ok (.lor, 1) := by decide +kernel
theorem d_Model_joined_12 : decode b_Model_joined 12 = .ok (.lreturn, 1) := by decide +kernel
theorem d_Model_drawKey_0 : decode b_Model_drawKey 0 = .ok (.iconst 0, 1) := by decide +kernel
theorem d_Model_drawKey_1 : decode b_Model_drawKey 1 = .ok (.istore_n 1, 1) := by decide +kernel
theorem d_Model_drawKey_2 : decode b_Model_drawKey 2 = .ok (.iload_n 1, 1) := by decide +kernel
theorem d_Model_drawKey_3 : decode b_Model_drawKey 3 = .ok (.iconst 4, 1) := by decide +kernel
theorem d_Model_drawKey_4 : decode b_Model_drawKey 4 = .ok (.if_icmp .ge 19, 3) := by decide +kernel
theorem d_Model_drawKey_7 : decode b_Model_drawKey 7 = .ok (.aload_n 0, 1) := by decide +kernel
theorem d_Model_drawKey_8 : decode b_Model_drawKey 8 = .ok (.getfield 7, 3) := by decide +kernel
theorem d_Model_drawKey_11 : decode b_Model_drawKey 11 = .ok (.iload_n 1, 1) := by decide +kernel
theorem d_Model_drawKey_12 : decode b_Model_drawKey 12 = .ok (.aload_n 0, 1) := by decide +kernel
theorem d_Model_drawKey_13 : decode b_Model_drawKey 13 = .ok (.invokevirtual 69, 3) := by decide +kernel
theorem d_Model_drawKey_16 : decode b_Model_drawKey 16 = .ok (.iastore, 1) := by decide +kernel
theorem d_Model_drawKey_17 : decode b_Model_drawKey 17 = .ok (.iinc 1 1, 3) := by decide +kernel
theorem d_Model_drawKey_20 : decode b_Model_drawKey 20 = .ok (.goto (-18), 3) := by decide +kernel
theorem d_Model_drawKey_23 : decode b_Model_drawKey 23 = .ok (.aload_n 0, 1) := by decide +kernel
theorem d_Model_drawKey_24 : decode b_Model_drawKey 24 = .ok (.aload_n 0, 1) := by decide +kernel
theorem d_Model_drawKey_25 : decode b_Model_drawKey 25 = .ok (.getfield 7, 3) := by decide +kernel
theorem d_Model_drawKey_28 : decode b_Model_drawKey 28 = .ok (.iconst 0, 1) := by decide +kernel
theorem d_Model_drawKey_29 : decode b_Model_drawKey 29 = .ok (.iaload, 1) := by decide +kernel
theorem d_Model_drawKey_30 : decode b_Model_drawKey 30 = .ok (.aload_n 0, 1) := by decide +kernel
theorem d_Model_drawKey_31 : decode b_Model_drawKey 31 = .ok (.getfield 7, 3) := by decide +kernel
theorem d_Model_drawKey_34 : decode b_Model_drawKey 34 = .ok (.iconst 1, 1) := by decide +kernel
theorem d_Model_drawKey_35 : decode b_Model_drawKey 35 = .ok (.iaload, 1) := by decide +kernel
theorem d_Model_drawKey_36 : decode b_Model_drawKey 36 = .ok (.invokestatic 73, 3) := by decide +kernel
theorem d_Model_drawKey_39 : decode b_Model_drawKey 39 = .ok (.putfield 77, 3) := by decide +kernel
theorem d_Model_drawKey_42 : decode b_Model_drawKey 42 = .ok (.aload_n 0, 1) := by decide +kernel
theorem d_Model_drawKey_43 : decode b_Model_drawKey 43 = .ok (.aload_n 0, 1) := by decide +kernel
theorem d_Model_drawKey_44 : decode b_Model_drawKey 44 = .ok (.getfield 7, 3) := by decide +kernel
theorem d_Model_drawKey_47 : decode b_Model_drawKey 47 = .ok (.iconst 2, 1) := by decide +kernel
theorem d_Model_drawKey_48 : decode b_Model_drawKey 48 = .ok (.iaload, 1) := by decide +kernel
theorem d_Model_drawKey_49 : decode b_Model_drawKey 49 = .ok (.aload_n 0, 1) := by decide +kernel
theorem d_Model_drawKey_50 : decode b_Model_drawKey 50 = .ok (.getfield 7, 3) := by decide +kernel
theorem d_Model_drawKey_53 : decode b_Model_drawKey 53 = .ok (.iconst 3, 1) := by decide +kernel
theorem d_Model_drawKey_54 : decode b_Model_drawKey 54 = .ok (.iaload, 1) := by decide +kernel
theorem d_Model_drawKey_55 : decode b_Model_drawKey 55 = .ok (.invokestatic 73, 3) := by decide +kernel
theorem d_Model_drawKey_58 : decode b_Model_drawKey 58 = .ok (.putfield 81, 3) := by decide +kernel
theorem d_Model_drawKey_61 : decode b_Model_drawKey 61 = .ok (.return_, 1) := by decide +kernel
theorem d_Model_around_0 : decode b_Model_around 0 = .ok (.lload_n 0, 1) := by decide +kernel
theorem d_Model_around_1 : decode b_Model_around 1 = .ok (.iload_n 2, 1) := by decide +kernel
theorem d_Model_around_2 : decode b_Model_around 2 = .ok (.lshl, 1) := by decide +kernel
theorem d_Model_around_3 : decode b_Model_around 3 = .ok (.lload_n 0, 1) := by decide +kernel
theorem d_Model_around_4 : decode b_Model_around 4 = .ok (.bipush 64, 2) := by decide +kernel
theorem d_Model_around_6 : decode b_Model_around 6 = .ok (.iload_n 2, 1) := by decide +kernel
theorem d_Model_around_7 : decode b_Model_around 7 = .ok (.isub, 1) := by decide +kernel
theorem d_Model_around_8 : decode b_Model_around 8 = .ok (.lushr, 1) := by decide +kernel
theorem d_Model_around_9 : decode b_Model_around 9 = .ok (.lor, 1) := by decide +kernel
theorem d_Model_around_10 : decode b_Model_around 10 = .ok (.lreturn, 1) := by decide +kernel
theorem d_Model_round_0 : decode b_Model_round 0 = .ok (.aload_n 0, 1) := by decide +kernel
theorem d_Model_round_1 : decode b_Model_round 1 = .ok (.aload_n 0, 1) := by decide +kernel
theorem d_Model_round_2 : decode b_Model_round 2 = .ok (.getfield 84, 3) := by decide +kernel
theorem d_Model_round_5 : decode b_Model_round 5 = .ok (.aload_n 0, 1) := by decide +kernel
theorem d_Model_round_6 : decode b_Model_round 6 = .ok (.getfield 87, 3) := by decide +kernel
theorem d_Model_round_9 : decode b_Model_round 9 = .ok (.ladd, 1) := by decide +kernel
theorem d_Model_round_10 : decode b_Model_round 10 = .ok (.putfield 84, 3) := by decide +kernel
theorem d_Model_round_13 : decode b_Model_round 13 = .ok (.aload_n 0, 1) := by decide +kernel
theorem d_Model_round_14 : decode b_Model_round 14 = .ok (.aload_n 0, 1) := by decide +kernel
theorem d_Model_round_15 : decode b_Model_round 15 = .ok (.getfield 90, 3) := by decide +kernel
theorem d_Model_round_18 : decode b_Model_round 18 = .ok (.aload_n 0, 1) := by decide +kernel
theorem d_Model_round_19 : decode b_Model_round 19 = .ok (.getfield 93, 3) := by decide +kernel
theorem d_Model_round_22 : decode b_Model_round 22 = .ok (.ladd, 1) := by decide +kernel
theorem d_Model_round_23 : decode b_Model_round 23 = .ok (.putfield 90, 3) := by decide +kernel
theorem d_Model_round_26 : decode b_Model_round 26 = .ok (.aload_n 0, 1) := by decide +kernel
theorem d_Model_round_27 : decode b_Model_round 27 = .ok (.aload_n 0, 1) := by decide +kernel
theorem d_Model_round_28 : decode b_Model_round 28 = .ok (.getfield 87, 3) := by decide +kernel
theorem d_Model_round_31 : decode b_Model_round 31 = .ok (.bipush 13, 2) := by decide +kernel
theorem d_Model_round_33 : decode b_Model_round 33 = .ok (.invokestatic 96, 3) := by decide +kernel
theorem d_Model_round_36 : decode b_Model_round 36 = .ok (.aload_n 0, 1) := by decide +kernel
theorem d_Model_round_37 : decode b_Model_round 37 = .ok (.getfield 84, 3) := by decide +kernel
theorem d_Model_round_40 : decode b_Model_round 40 = .ok (.lxor, 1) := by decide +kernel
theorem d_Model_round_41 : decode b_Model_round 41 = .ok (.putfield 87, 3) := by decide +kernel
theorem d_Model_round_44 : decode b_Model_round 44 = .ok (.aload_n 0, 1) := by decide +kernel
theorem d_Model_round_45 : decode b_Model_round 45 = .ok (.aload_n 0, 1) := by decide +kernel
theorem d_Model_round_46 : decode b_Model_round 46 = .ok (.getfield 93, 3) := by decide +kernel
theorem d_Model_round_49 : decode b_Model_round 49 = .ok (.bipush 16, 2) := by decide +kernel
theorem d_Model_round_51 : decode b_Model_round 51 = .ok (.invokestatic 96, 3) := by decide +kernel
theorem d_Model_round_54 : decode b_Model_round 54 = .ok (.aload_n 0, 1) := by decide +kernel
theorem d_Model_round_55 : decode b_Model_round 55 = .ok (.getfield 90, 3) := by decide +kernel
theorem d_Model_round_58 : decode b_Model_round 58 = .ok (.lxor, 1) := by decide +kernel
theorem d_Model_round_59 : decode b_Model_round 59 = .ok (.putfield 93, 3) := by decide +kernel
theorem d_Model_round_62 : decode b_Model_round 62 = .ok (.aload_n 0, 1) := by decide +kernel
theorem d_Model_round_63 : decode b_Model_round 63 = .ok (.aload_n 0, 1) := by decide +kernel
theorem d_Model_round_64 : decode b_Model_round 64 = .ok (.getfield 84, 3) := by decide +kernel
theorem d_Model_round_67 : decode b_Model_round 67 = .ok (.bipush 32, 2) := by decide +kernel
theorem d_Model_round_69 : decode b_Model_round 69 = .ok (.invokestatic 96, 3) := by decide +kernel
theorem d_Model_round_72 : decode b_Model_round 72 = .ok (.aload_n 0, 1) := by decide +kernel
theorem d_Model_round_73 : decode b_Model_round 73 = .ok (.getfield 93, 3) := by decide +kernel
theorem d_Model_round_76 : decode b_Model_round 76 = .ok (.ladd, 1) := by decide +kernel
theorem d_Model_round_77 : decode b_Model_round 77 = .ok (.putfield 84, 3) := by decide +kernel
theorem d_Model_round_80 : decode b_Model_round 80 = .ok (.aload_n 0, 1) := by decide +kernel
theorem d_Model_round_81 : decode b_Model_round 81 = .ok (.aload_n 0, 1) := by decide +kernel
theorem d_Model_round_82 : decode b_Model_round 82 = .ok (.getfield 90, 3) := by decide +kernel
theorem d_Model_round_85 : decode b_Model_round 85 = .ok (.aload_n 0, 1) := by decide +kernel
theorem d_Model_round_86 : decode b_Model_round 86 = .ok (.getfield 87, 3) := by decide +kernel
theorem d_Model_round_89 : decode b_Model_round 89 = .ok (.ladd, 1) := by decide +kernel
theorem d_Model_round_90 : decode b_Model_round 90 = .ok (.putfield 90, 3) := by decide +kernel
theorem d_Model_round_93 : decode b_Model_round 93 = .ok (.aload_n 0, 1) := by decide +kernel
theorem d_Model_round_94 : decode b_Model_round 94 = .ok (.aload_n 0, 1) := by decide +kernel
theorem d_Model_round_95 : decode b_Model_round 95 = .ok (.getfield 93, 3) := by decide +kernel
theorem d_Model_round_98 : decode b_Model_round 98 = .ok (.bipush 21, 2) := by decide +kernel
theorem d_Model_round_100 : decode b_Model_round 100 = .ok (.invokestatic 96, 3) := by decide +kernel
theorem d_Model_round_103 : decode b_Model_round 103 = .ok (.aload_n 0, 1) := by decide +kernel
theorem d_Model_round_104 : decode b_Model_round 104 = .ok (.getfield 84, 3) := by decide +kernel
theorem d_Model_round_107 : decode b_Model_round 107 = .ok (.lxor, 1) := by decide +kernel
theorem d_Model_round_108 : decode b_Model_round 108 = .ok (.putfield 93, 3) := by decide +kernel
theorem d_Model_round_111 : decode b_Model_round 111 = .ok (.aload_n 0, 1) := by decide +kernel
theorem d_Model_round_112 : decode b_Model_round 112 = .ok (.aload_n 0, 1) := by decide +kernel
theorem d_Model_round_113 : decode b_Model_round 113 = .ok (.getfield 87, 3) := by decide +kernel
theorem d_Model_round_116 : decode b_Model_round 116 = .ok (.bipush 17, 2) := by decide +kernel
theorem d_Model_round_118 : decode b_Model_round 118 = .ok (.invokestatic 96, 3) := by decide +kernel
theorem d_Model_round_121 : decode b_Model_round 121 = .ok (.aload_n 0, 1) := by decide +kernel
theorem d_Model_round_122 : decode b_Model_round 122 = .ok (.getfield 90, 3) := by decide +kernel
theorem d_Model_round_125 : decode b_Model_round 125 = .ok (.lxor, 1) := by decide +kernel
theorem d_Model_round_126 : decode b_Model_round 126 = .ok (.putfield 87, 3) := by decide +kernel
theorem d_Model_round_129 : decode b_Model_round 129 = .ok (.aload_n 0, 1) := by decide +kernel
theorem d_Model_round_130 : decode b_Model_round 130 = .ok (.aload_n 0, 1) := by decide +kernel
theorem d_Model_round_131 : decode b_Model_round 131 = .ok (.getfield 90, 3) := by decide +kernel
theorem d_Model_round_134 : decode b_Model_round 134 = .ok (.bipush 32, 2) := by decide +kernel
theorem d_Model_round_136 : decode b_Model_round 136 = .ok (.invokestatic 96, 3) := by decide +kernel
theorem d_Model_round_139 : decode b_Model_round 139 = .ok (.putfield 90, 3) := by decide +kernel
theorem d_Model_round_142 : decode b_Model_round 142 = .ok (.return_, 1) := by decide +kernel
theorem d_Model_hash_0 : decode b_Model_hash 0 = .ok (.iload 5, 2) := by decide +kernel
theorem d_Model_hash_2 : decode b_Model_hash 2 = .ok (.ldc 100, 2) := by decide +kernel
theorem d_Model_hash_4 : decode b_Model_hash 4 = .ok (.invokestatic 73, 3) := by decide +kernel
theorem d_Model_hash_7 : decode b_Model_hash 7 = .ok (.lstore 6, 2) := by decide +kernel
theorem d_Model_hash_9 : decode b_Model_hash 9 = .ok (.aload_n 0, 1) := by decide +kernel
theorem d_Model_hash_10 : decode b_Model_hash 10 = .ok (.lload_n 1, 1) := by decide +kernel
theorem d_Model_hash_11 : decode b_Model_hash 11 = .ok (.ldc2_w 101, 3) := by decide +kernel
theorem d_Model_hash_14 : decode b_Model_hash 14 = .ok (.lxor, 1) := by decide +kernel
theorem d_Model_hash_15 : decode b_Model_hash 15 = .ok (.putfield 84, 3) := by decide +kernel
theorem d_Model_hash_18 : decode b_Model_hash 18 = .ok (.aload_n 0, 1) := by decide +kernel
theorem d_Model_hash_19 : decode b_Model_hash 19 = .ok (.lload_n 3, 1) := by decide +kernel
theorem d_Model_hash_20 : decode b_Model_hash 20 = .ok (.ldc2_w 103, 3) := by decide +kernel
theorem d_Model_hash_23 : decode b_Model_hash 23 = .ok (.lxor, 1) := by decide +kernel
theorem d_Model_hash_24 : decode b_Model_hash 24 = .ok (.putfield 87, 3) := by decide +kernel
theorem d_Model_hash_27 : decode b_Model_hash 27 = .ok (.aload_n 0, 1) := by decide +kernel
theorem d_Model_hash_28 : decode b_Model_hash 28 = .ok (.lload_n 1, 1) := by decide +kernel
theorem d_Model_hash_29 : decode b_Model_hash 29 = .ok (.ldc2_w 105, 3) := by decide +kernel
theorem d_Model_hash_32 : decode b_Model_hash 32 = .ok (.lxor, 1) := by decide +kernel
theorem d_Model_hash_33 : decode b_Model_hash 33 = .ok (.putfield 90, 3) := by decide +kernel
theorem d_Model_hash_36 : decode b_Model_hash 36 = .ok (.aload_n 0, 1) := by decide +kernel
theorem d_Model_hash_37 : decode b_Model_hash 37 = .ok (.lload_n 3, 1) := by decide +kernel
theorem d_Model_hash_38 : decode b_Model_hash 38 = .ok (.ldc2_w 107, 3) := by decide +kernel
theorem d_Model_hash_41 : decode b_Model_hash 41 = .ok (.lxor, 1) := by decide +kernel
theorem d_Model_hash_42 : decode b_Model_hash 42 = .ok (.lload 6, 2) := by decide +kernel
theorem d_Model_hash_44 : decode b_Model_hash 44 = .ok (.lxor, 1) := by decide +kernel
theorem d_Model_hash_45 : decode b_Model_hash 45 = .ok (.putfield 93, 3) := by decide +kernel
theorem d_Model_hash_48 : decode b_Model_hash 48 = .ok (.aload_n 0, 1) := by decide +kernel
theorem d_Model_hash_49 : decode b_Model_hash 49 = .ok (.invokevirtual 109, 3) := by decide +kernel
theorem d_Model_hash_52 : decode b_Model_hash 52 = .ok (.aload_n 0, 1) := by decide +kernel
theorem d_Model_hash_53 : decode b_Model_hash 53 = .ok (.aload_n 0, 1) := by decide +kernel
theorem d_Model_hash_54 : decode b_Model_hash 54 = .ok (.getfield 84, 3) := by decide +kernel
theorem d_Model_hash_57 : decode b_Model_hash 57 = .ok (.lload 6, 2) := by decide +kernel
theorem d_Model_hash_59 : decode b_Model_hash 59 = .ok (.lxor, 1) := by decide +kernel
theorem d_Model_hash_60 : decode b_Model_hash 60 = .ok (.putfield 84, 3) := by decide +kernel
theorem d_Model_hash_63 : decode b_Model_hash 63 = .ok (.aload_n 0, 1) := by decide +kernel
theorem d_Model_hash_64 : decode b_Model_hash 64 = .ok (.aload_n 0, 1) := by decide +kernel
theorem d_Model_hash_65 : decode b_Model_hash 65 = .ok (.getfield 90, 3) := by decide +kernel
theorem d_Model_hash_68 : decode b_Model_hash 68 = .ok (.ldc2_w 112, 3) := by decide +kernel
theorem d_Model_hash_71 : decode b_Model_hash 71 = .ok (.lxor, 1) := by decide +kernel
theorem d_Model_hash_72 : decode b_Model_hash 72 = .ok (.putfield 90, 3) := by decide +kernel
theorem d_Model_hash_75 : decode b_Model_hash 75 = .ok (.iconst 0, 1) := by decide +kernel
theorem d_Model_hash_76 : decode b_Model_hash 76 = .ok (.istore 8, 2) := by decide +kernel
theorem d_Model_hash_78 : decode b_Model_hash 78 = .ok (.iload 8, 2) := by decide +kernel
theorem d_Model_hash_80 : decode b_Model_hash 80 = .ok (.iconst 3, 1) := by decide +kernel
theorem d_Model_hash_81 : decode b_Model_hash 81 = .ok (.if_icmp .ge 13, 3) := by decide +kernel
theorem d_Model_hash_84 : decode b_Model_hash 84 = .ok (.aload_n 0, 1) := by decide +kernel
theorem d_Model_hash_85 : decode b_Model_hash 85 = .ok (.invokevirtual 109, 3) := by decide +kernel
theorem d_Model_hash_88 : decode b_Model_hash 88 = .ok (.iinc 8 1, 3) := by decide +kernel
theorem d_Model_hash_91 : decode b_Model_hash 91 = .ok (.goto (-13), 3) := by decide +kernel
theorem d_Model_hash_94 : decode b_Model_hash 94 = .ok (.aload_n 0, 1) := by decide +kernel
theorem d_Model_hash_95 : decode b_Model_hash 95 = .ok (.getfield 84, 3) := by decide +kernel
theorem d_Model_hash_98 : decode b_Model_hash 98 = .ok (.aload_n 0, 1) := by decide +kernel
theorem d_Model_hash_99 : decode b_Model_hash 99 = .ok (.getfield 87, 3) := by decide +kernel
theorem d_Model_hash_102 : decode b_Model_hash 102 = .ok (.lxor, 1) := by decide +kernel
theorem d_Model_hash_103 : decode b_Model_hash 103 = .ok (.aload_n 0, 1) := by decide +kernel
theorem d_Model_hash_104 : decode b_Model_hash 104 = .ok (.getfield 90, 3) := by decide +kernel
theorem d_Model_hash_107 : decode b_Model_hash 107 = .ok (.lxor, 1) := by decide +kernel
theorem d_Model_hash_108 : decode b_Model_hash 108 = .ok (.aload_n 0, 1) := by decide +kernel
theorem d_Model_hash_109 : decode b_Model_hash 109 = .ok (.getfield 93, 3) := by decide +kernel
theorem d_Model_hash_112 : decode b_Model_hash 112 = .ok (.lxor, 1) := by decide +kernel
theorem d_Model_hash_113 : decode b_Model_hash 113 = .ok (.lreturn, 1) := by decide +kernel
theorem d_Model_home_0 : decode b_Model_home 0 = .ok (.aload_n 0, 1) := by decide +kernel
theorem d_Model_home_1 : decode b_Model_home 1 = .ok (.aload_n 0, 1) := by decide +kernel
theorem d_Model_home_2 : decode b_Model_home 2 = .ok (.getfield 77, 3) := by decide +kernel
theorem d_Model_home_5 : decode b_Model_home 5 = .ok (.aload_n 0, 1) := by decide +kernel
theorem d_Model_home_6 : decode b_Model_home 6 = .ok (.getfield 81, 3) := by decide +kernel
theorem d_Model_home_9 : decode b_Model_home 9 = .ok (.iload_n 1, 1) := by decide +kernel
theorem d_Model_home_10 : decode b_Model_home 10 = .ok (.invokevirtual 114, 3) := by decide +kernel
theorem d_Model_home_13 : decode b_Model_home 13 = .ok (.aload_n 0, 1) := by decide +kernel
theorem d_Model_home_14 : decode b_Model_home 14 = .ok (.getfield 31, 3) := by decide +kernel
theorem d_Model_home_17 : decode b_Model_home 17 = .ok (.iconst 1, 1) := by decide +kernel
theorem d_Model_home_18 : decode b_Model_home 18 = .ok (.isub, 1) := by decide +kernel
theorem d_Model_home_19 : decode b_Model_home 19 = .ok (.i2l, 1) := by decide +kernel
theorem d_Model_home_20 : decode b_Model_home 20 = .ok (.land, 1) := by decide +kernel
theorem d_Model_home_21 : decode b_Model_home 21 = .ok (.l2i, 1) := by decide +kernel
theorem d_Model_home_22 : decode b_Model_home 22 = .ok (.ireturn, 1) := by decide +kernel
theorem d_Model_find_0 : decode b_Model_find 0 = .ok (.aload_n 0, 1) := by decide +kernel
theorem d_Model_find_1 : decode b_Model_find 1 = .ok (.iload_n 1, 1) := by decide +kernel
theorem d_Model_find_2 : decode b_Model_find 2 = .ok (.invokevirtual 118, 3) := by decide +kernel
theorem d_Model_find_5 : decode b_Model_find 5 = .ok (.istore_n 2, 1) := by decide +kernel
theorem d_Model_find_6 : decode b_Model_find 6 = .ok (.iconst 0, 1) := by decide +kernel
theorem d_Model_find_7 : decode b_Model_find 7 = .ok (.istore_n 3, 1) := by decide +kernel
theorem d_Model_find_8 : decode b_Model_find 8 = .ok (.iload_n 3, 1) := by decide +kernel
theorem d_Model_find_9 : decode b_Model_find 9 = .ok (.aload_n 0, 1) := by decide +kernel
theorem d_Model_find_10 : decode b_Model_find 10 = .ok (.getfield 31, 3) := by decide +kernel
theorem d_Model_find_13 : decode b_Model_find 13 = .ok (.if_icmp .ge 45, 3) := by decide +kernel
theorem d_Model_find_16 : decode b_Model_find 16 = .ok (.iload_n 2, 1) := by decide +kernel
theorem d_Model_find_17 : decode b_Model_find 17 = .ok (.iload_n 3, 1) := by decide +kernel
theorem d_Model_find_18 : decode b_Model_find 18 = .ok (.iadd, 1) := by decide +kernel
theorem d_Model_find_19 : decode b_Model_find 19 = .ok (.aload_n 0, 1) := by decide +kernel
theorem d_Model_find_20 : decode b_Model_find 20 = .ok (.getfield 31, 3) := by decide +kernel
theorem d_Model_find_23 : decode b_Model_find 23 = .ok (.irem, 1) := by decide +kernel
theorem d_Model_find_24 : decode b_Model_find 24 = .ok (.istore 4, 2) := by decide +kernel
theorem d_Model_find_26 : decode b_Model_find 26 = .ok (.aload_n 0, 1) := by decide +kernel
theorem d_Model_find_27 : decode b_Model_find 27 = .ok (.getfield 13, 3) := by decide +kernel
theorem d_Model_find_30 : decode b_Model_find 30 = .ok (.iload 4, 2) := by decide +kernel
theorem d_Model_find_32 : decode b_Model_find 32 = .ok (.iaload, 1) := by decide +kernel
theorem d_Model_find_33 : decode b_Model_find 33 = .ok (.ifCond .ne 5, 3) := by decide +kernel
theorem d_Model_find_36 : decode b_Model_find 36 = .ok (.iconst (-1), 1) := by decide +kernel
theorem d_Model_find_37 : decode b_Model_find 37 = .ok (.ireturn, 1) := by decide +kernel
theorem d_Model_find_38 : decode b_Model_find 38 = .ok (.aload_n 0, 1) := by decide +kernel
theorem d_Model_find_39 : decode b_Model_find 39 = .ok (.getfield 16, 3) := by decide +kernel
theorem d_Model_find_42 : decode b_Model_find 42 = .ok (.iload 4, 2) := by decide +kernel
theorem d_Model_find_44 : decode b_Model_find 44 = .ok (.iaload, 1) := by decide +kernel
theorem d_Model_find_45 : decode b_Model_find 45 = .ok (.iload_n 1, 1) := by decide +kernel
theorem d_Model_find_46 : decode b_Model_find 46 = .ok (.if_icmp .ne 6, 3) := by decide +kernel
theorem d_Model_find_49 : decode b_Model_find 49 = .ok (.iload 4, 2) := by decide +kernel
theorem d_Model_find_51 : decode b_Model_find 51 = .ok (.ireturn, 1) := by decide +kernel
theorem d_Model_find_52 : decode b_Model_find 52 = .ok (.iinc 3 1, 3) := by decide +kernel
theorem d_Model_find_55 : decode b_Model_find 55 = .ok (.goto (-47), 3) := by decide +kernel
theorem d_Model_find_58 : decode b_Model_find 58 = .ok (.iconst (-1), 1) := by decide +kernel
theorem d_Model_find_59 : decode b_Model_find 59 = .ok (.ireturn, 1) := by decide +kernel
theorem d_Model_findOld_0 : decode b_Model_findOld 0 = .ok (.aload_n 0, 1) := by decide +kernel
theorem d_Model_findOld_1 : decode b_Model_findOld 1 = .ok (.getfield 121, 3) := by decide +kernel
theorem d_Model_findOld_4 : decode b_Model_findOld 4 = .ok (.ifCond .ne 5, 3) := by decide +kernel
theorem d_Model_findOld_7 : decode b_Model_findOld 7 = .ok (.iconst (-1), 1) := by decide +kernel
theorem d_Model_findOld_8 : decode b_Model_findOld 8 = .ok (.ireturn, 1) := by decide +kernel
theorem d_Model_findOld_9 : decode b_Model_findOld 9 = .ok (.aload_n 0, 1) := by decide +kernel
theorem d_Model_findOld_10 : decode b_Model_findOld 10 = .ok (.aload_n 0, 1) := by decide +kernel
theorem d_Model_findOld_11 : decode b_Model_findOld 11 = .ok (.getfield 125, 3) := by decide +kernel
theorem d_Model_findOld_14 : decode b_Model_findOld 14 = .ok (.aload_n 0, 1) := by decide +kernel
theorem d_Model_findOld_15 : decode b_Model_findOld 15 = .ok (.getfield 128, 3) := by decide +kernel
theorem d_Model_findOld_18 : decode b_Model_findOld 18 = .ok (.iload_n 1, 1) := by decide +kernel
theorem d_Model_findOld_19 : decode b_Model_findOld 19 = .ok (.invokevirtual 114, 3) := by decide +kernel
theorem d_Model_findOld_22 : decode b_Model_findOld 22 = .ok (.aload_n 0, 1) := by decide +kernel
theorem d_Model_findOld_23 : decode b_Model_findOld 23 = .ok (.getfield 31, 3) := by decide +kernel
theorem d_Model_findOld_26 : decode b_Model_findOld 26 = .ok (.iconst 1, 1) := by decide +kernel
theorem d_Model_findOld_27 : decode b_Model_findOld 27 = .ok (.isub, 1) := by decide +kernel
theorem d_Model_findOld_28 : decode b_Model_findOld 28 = .ok (.i2l, 1) := by decide +kernel
theorem d_Model_findOld_29 : decode b_Model_findOld 29 = .ok (.land, 1) := by decide +kernel
theorem d_Model_findOld_30 : decode b_Model_findOld 30 = .ok (.l2i, 1) := by decide +kernel
theorem d_Model_findOld_31 : decode b_Model_findOld 31 = .ok (.istore_n 2, 1) := by decide +kernel
theorem d_Model_findOld_32 : decode b_Model_findOld 32 = .ok (.iconst 0, 1) := by decide +kernel
theorem d_Model_findOld_33 : decode b_Model_findOld 33 = .ok (.istore_n 3, 1) := by decide +kernel
theorem d_Model_findOld_34 : decode b_Model_findOld 34 = .ok (.iload_n 3, 1) := by decide +kernel
theorem d_Model_findOld_35 : decode b_Model_findOld 35 = .ok (.aload_n 0, 1) := by decide +kernel
theorem d_Model_findOld_36 : decode b_Model_findOld 36 = .ok (.getfield 31, 3) := by decide +kernel
theorem d_Model_findOld_39 : decode b_Model_findOld 39 = .ok (.if_icmp .ge 56, 3) := by decide +kernel
theorem d_Model_findOld_42 : decode b_Model_findOld 42 = .ok (.iload_n 2, 1) := by decide +kernel
theorem d_Model_findOld_43 : decode b_Model_findOld 43 = .ok (.iload_n 3, 1) := by decide +kernel
theorem d_Model_findOld_44 : decode b_Model_findOld 44 = .ok (.iadd, 1) := by decide +kernel
theorem d_Model_findOld_45 : decode b_Model_findOld 45 = .ok (.aload_n 0, 1) := by decide +kernel
theorem d_Model_findOld_46 : decode b_Model_findOld 46 = .ok (.getfield 31, 3) := by decide +kernel
theorem d_Model_findOld_49 : decode b_Model_findOld 49 = .ok (.irem, 1) := by decide +kernel
theorem d_Model_findOld_50 : decode b_Model_findOld 50 = .ok (.istore 4, 2) := by decide +kernel
theorem d_Model_findOld_52 : decode b_Model_findOld 52 = .ok (.aload_n 0, 1) := by decide +kernel
theorem d_Model_findOld_53 : decode b_Model_findOld 53 = .ok (.getfield 22, 3) := by decide +kernel
theorem d_Model_findOld_56 : decode b_Model_findOld 56 = .ok (.iload 4, 2) := by decide +kernel
theorem d_Model_findOld_58 : decode b_Model_findOld 58 = .ok (.iaload, 1) := by decide +kernel
theorem d_Model_findOld_59 : decode b_Model_findOld 59 = .ok (.ifCond .ne 5, 3) := by decide +kernel
theorem d_Model_findOld_62 : decode b_Model_findOld 62 = .ok (.iconst (-1), 1) := by decide +kernel
theorem d_Model_findOld_63 : decode b_Model_findOld 63 = .ok (.ireturn, 1) := by decide +kernel
theorem d_Model_findOld_64 : decode b_Model_findOld 64 = .ok (.aload_n 0, 1) := by decide +kernel
theorem d_Model_findOld_65 : decode b_Model_findOld 65 = .ok (.getfield 22, 3) := by decide +kernel
theorem d_Model_findOld_68 : decode b_Model_findOld 68 = .ok (.iload 4, 2) := by decide +kernel
theorem d_Model_findOld_70 : decode b_Model_findOld 70 = .ok (.iaload, 1) := by decide +kernel
theorem d_Model_findOld_71 : decode b_Model_findOld 71 = .ok (.iconst 1, 1) := by decide +kernel
theorem d_Model_findOld_72 : decode b_Model_findOld 72 = .ok (.if_icmp .ne 17, 3) := by decide +kernel
theorem d_Model_findOld_75 : decode b_Model_findOld 75 = .ok (.aload_n 0, 1) := by decide +kernel
theorem d_Model_findOld_76 : decode b_Model_findOld 76 = .ok (.getfield 25, 3) := by decide +kernel
theorem d_Model_findOld_79 : decode b_Model_findOld 79 = .ok (.iload 4, 2) := by decide +kernel
theorem d_Model_findOld_81 : decode b_Model_findOld 81 = .ok (.iaload, 1) := by decide +kernel
theorem d_Model_findOld_82 : decode b_Model_findOld 82 = .ok (.iload_n 1, 1) := by decide +kernel
theorem d_Model_findOld_83 : decode b_Model_findOld 83 = .ok (.if_icmp .ne 6, 3) := by decide +kernel
theorem d_Model_findOld_86 : decode b_Model_findOld 86 = .ok (.iload 4, 2) := by decide +kernel
theorem d_Model_findOld_88 : decode b_Model_findOld 88 = .ok (.ireturn, 1) := by decide +kernel
theorem d_Model_findOld_89 : decode b_Model_findOld 89 = .ok (.iinc 3 1, 3) := by decide +kernel
theorem d_Model_findOld_92 : decode b_Model_findOld 92 = .ok (.goto (-58), 3) := by decide +kernel
theorem d_Model_findOld_95 : decode b_Model_findOld 95 = .ok (.iconst (-1), 1) := by decide +kernel
theorem d_Model_findOld_96 : decode b_Model_findOld 96 = .ok (.ireturn, 1) := by decide +kernel
theorem d_Model_inNew_0 : decode b_Model_inNew 0 = .ok (.iconst 0, 1) := by decide +kernel
theorem d_Model_inNew_1 : decode b_Model_inNew 1 = .ok (.istore_n 1, 1) := by decide +kernel
theorem d_Model_inNew_2 : decode b_Model_inNew 2 = .ok (.iconst 0, 1) := by decide +kernel
theorem d_Model_inNew_3 : decode b_Model_inNew 3 = .ok (.istore_n 2, 1) := by decide +kernel
theorem d_Model_inNew_4 : decode b_Model_inNew 4 = .ok (.iload_n 2, 1) := by decide +kernel
theorem d_Model_inNew_5 : decode b_Model_inNew 5 = .ok (.aload_n 0, 1) := by decide +kernel
theorem d_Model_inNew_6 : decode b_Model_inNew 6 = .ok (.getfield 31, 3) := by decide +kernel
theorem d_Model_inNew_9 : decode b_Model_inNew 9 = .ok (.if_icmp .ge 27, 3) := by decide +kernel
theorem d_Model_inNew_12 : decode b_Model_inNew 12 = .ok (.aload_n 0, 1) := by decide +kernel
theorem d_Model_inNew_13 : decode b_Model_inNew 13 = .ok (.getfield 13, 3) := by decide +kernel
theorem d_Model_inNew_16 : decode b_Model_inNew 16 = .ok (.iload_n 2, 1) := by decide +kernel
theorem d_Model_inNew_17 : decode b_Model_inNew 17 = .ok (.iaload, 1) := by decide +kernel
theorem d_Model_inNew_18 : decode b_Model_inNew 18 = .ok (.iconst 1, 1) := by decide +kernel
theorem d_Model_inNew_19 : decode b_Model_inNew 19 = .ok (.if_icmp .ne 9, 3) := by decide +kernel
theorem d_Model_inNew_22 : decode b_Model_inNew 22 = .ok (.iload_n 1, 1) := by decide +kernel
theorem d_Model_inNew_23 : decode b_Model_inNew 23 = .ok (.iconst 1, 1) := by decide +kernel
theorem d_Model_inNew_24 : decode b_Model_inNew 24 = .ok (.iadd, 1) := by decide +kernel
theorem d_Model_inNew_25 : decode b_Model_inNew 25 = .ok (.goto 4, 3) := by decide +kernel
theorem d_Model_inNew_28 : decode b_Model_inNew 28 = .ok (.iload_n 1, 1) := by decide +kernel
theorem d_Model_inNew_29 : decode b_Model_inNew 29 = .ok (.istore_n 1, 1) := by decide +kernel
theorem d_Model_inNew_30 : decode b_Model_inNew 30 = .ok (.iinc 2 1, 3) := by decide +kernel
theorem d_Model_inNew_33 : decode b_Model_inNew 33 = .ok (.goto (-29), 3) := by decide +kernel
theorem d_Model_inNew_36 : decode b_Model_inNew 36 = .ok (.iload_n 1, 1) := by decide +kernel
theorem d_Model_inNew_37 : decode b_Model_inNew 37 = .ok (.ireturn, 1) := by decide +kernel
theorem d_Model_inOld_0 : decode b_Model_inOld 0 = .ok (.iconst 0, 1) := by decide +kernel
theorem d_Model_inOld_1 : decode b_Model_inOld 1 = .ok (.istore_n 1, 1) := by decide +kernel
theorem d_Model_inOld_2 : decode b_Model_inOld 2 = .ok (.iconst 0, 1) := by decide +kernel
theorem d_Model_inOld_3 : decode b_Model_inOld 3 = .ok (.istore_n 2, 1) := by decide +kernel
theorem d_Model_inOld_4 : decode b_Model_inOld 4 = .ok (.iload_n 2, 1) := by decide +kernel
theorem d_Model_inOld_5 : decode b_Model_inOld 5 = .ok (.aload_n 0, 1) := by decide +kernel
theorem d_Model_inOld_6 : decode b_Model_inOld 6 = .ok (.getfield 31, 3) := by decide +kernel
theorem d_Model_inOld_9 : decode b_Model_inOld 9 = .ok (.if_icmp .ge 34, 3) := by decide +kernel
theorem d_Model_inOld_12 : decode b_Model_inOld 12 = .ok (.aload_n 0, 1) := by decide +kernel
theorem d_Model_inOld_13 : decode b_Model_inOld 13 = .ok (.getfield 121, 3) := by decide +kernel
theorem d_Model_inOld_16 : decode b_Model_inOld 16 = .ok (.ifCond .eq 19, 3) := by decide +kernel
theorem d_Model_inOld_19 : decode b_Model_inOld 19 = .ok (.aload_n 0, 1) := by decide +kernel
theorem d_Model_inOld_20 : decode b_Model_inOld 20 = .ok (.getfield 22, 3) := by decide +kernel
theorem d_Model_inOld_23 : decode b_Model_inOld 23 = .ok (.iload_n 2, 1) := by decide +kernel
theorem d_Model_inOld_24 : decode b_Model_inOld 24 = .ok (.iaload, 1) := by decide +kernel
theorem d_Model_inOld_25 : decode b_Model_inOld 25 = .ok (.iconst 1, 1) := by decide +kernel
theorem d_Model_inOld_26 : decode b_Model_inOld 26 = .ok (.if_icmp .ne 9, 3) := by decide +kernel
theorem d_Model_inOld_29 : decode b_Model_inOld 29 = .ok (.iload_n 1, 1) := by decide +kernel
theorem d_Model_inOld_30 : decode b_Model_inOld 30 = .ok (.iconst 1, 1) := by decide +kernel
theorem d_Model_inOld_31 : decode b_Model_inOld 31 = .ok (.iadd, 1) := by decide +kernel
theorem d_Model_inOld_32 : decode b_Model_inOld 32 = .ok (.goto 4, 3) := by decide +kernel
theorem d_Model_inOld_35 : decode b_Model_inOld 35 = .ok (.iload_n 1, 1) := by decide +kernel
theorem d_Model_inOld_36 : decode b_Model_inOld 36 = .ok (.istore_n 1, 1) := by decide +kernel
theorem d_Model_inOld_37 : decode b_Model_inOld 37 = .ok (.iinc 2 1, 3) := by decide +kernel
theorem d_Model_inOld_40 : decode b_Model_inOld 40 = .ok (.goto (-36), 3) := by decide +kernel
theorem d_Model_inOld_43 : decode b_Model_inOld 43 = .ok (.iload_n 1, 1) := by decide +kernel
theorem d_Model_inOld_44 : decode b_Model_inOld 44 = .ok (.ireturn, 1) := by decide +kernel
theorem d_Model_enter_0 : decode b_Model_enter 0 = .ok (.aload_n 0, 1) := by decide +kernel
theorem d_Model_enter_1 : decode b_Model_enter 1 = .ok (.iload_n 1, 1) := by decide +kernel
theorem d_Model_enter_2 : decode b_Model_enter 2 = .ok (.invokevirtual 118, 3) := by decide +kernel
theorem d_Model_enter_5 : decode b_Model_enter 5 = .ok (.istore_n 3, 1) := by decide +kernel
theorem d_Model_enter_6 : decode b_Model_enter 6 = .ok (.iconst 1, 1) := by decide +kernel
theorem d_Model_enter_7 : decode b_Model_enter 7 = .ok (.istore 4, 2) := by decide +kernel
theorem d_Model_enter_9 : decode b_Model_enter 9 = .ok (.aload_n 0, 1) := by decide +kernel
theorem d_Model_enter_10 : decode b_Model_enter 10 = .ok (.getfield 13, 3) := by decide +kernel
theorem d_Model_enter_13 : decode b_Model_enter 13 = .ok (.iload_n 3, 1) := by decide +kernel
theorem d_Model_enter_14 : decode b_Model_enter 14 = .ok (.iload 4, 2) := by decide +kernel
theorem d_Model_enter_16 : decode b_Model_enter 16 = .ok (.iadd, 1) := by decide +kernel
theorem d_Model_enter_17 : decode b_Model_enter 17 = .ok (.iconst 1, 1) := by decide +kernel
theorem d_Model_enter_18 : decode b_Model_enter 18 = .ok (.isub, 1) := by decide +kernel
theorem d_Model_enter_19 : decode b_Model_enter 19 = .ok (.aload_n 0, 1) := by decide +kernel
theorem d_Model_enter_20 : decode b_Model_enter 20 = .ok (.getfield 31, 3) := by decide +kernel
theorem d_Model_enter_23 : decode b_Model_enter 23 = .ok (.irem, 1) := by decide +kernel
theorem d_Model_enter_24 : decode b_Model_enter 24 = .ok (.iaload, 1) := by decide +kernel
theorem d_Model_enter_25 : decode b_Model_enter 25 = .ok (.ifCond .eq 9, 3) := by decide +kernel
theorem d_Model_enter_28 : decode b_Model_enter 28 = .ok (.iinc 4 1, 3) := by decide +kernel
theorem d_Model_enter_31 : decode b_Model_enter 31 = .ok (.goto (-22), 3) := by decide +kernel
theorem d_Model_enter_34 : decode b_Model_enter 34 = .ok (.iload_n 3, 1) := by decide +kernel
theorem d_Model_enter_35 : decode b_Model_enter 35 = .ok (.iload 4, 2) := by decide +kernel
theorem d_Model_enter_37 : decode b_Model_enter 37 = .ok (.iadd, 1) := by decide +kernel
theorem d_Model_enter_38 : decode b_Model_enter 38 = .ok (.iconst 1, 1) := by decide +kernel
theorem d_Model_enter_39 : decode b_Model_enter 39 = .ok (.isub, 1) := by decide +kernel
theorem d_Model_enter_40 : decode b_Model_enter 40 = .ok (.aload_n 0, 1) := by decide +kernel
theorem d_Model_enter_41 : decode b_Model_enter 41 = .ok (.getfield 31, 3) := by decide +kernel
theorem d_Model_enter_44 : decode b_Model_enter 44 = .ok (.irem, 1) := by decide +kernel
theorem d_Model_enter_45 : decode b_Model_enter 45 = .ok (.istore 5, 2) := by decide +kernel
theorem d_Model_enter_47 : decode b_Model_enter 47 = .ok (.aload_n 0, 1) := by decide +kernel
theorem d_Model_enter_48 : decode b_Model_enter 48 = .ok (.getfield 13, 3) := by decide +kernel
theorem d_Model_enter_51 : decode b_Model_enter 51 = .ok (.iload 5, 2) := by decide +kernel
theorem d_Model_enter_53 : decode b_Model_enter 53 = .ok (.iconst 1, 1) := by decide +kernel
theorem d_Model_enter_54 : decode b_Model_enter 54 = .ok (.iastore, 1) := by decide +kernel
theorem d_Model_enter_55 : decode b_Model_enter 55 = .ok (.aload_n 0, 1) := by decide +kernel
theorem d_Model_enter_56 : decode b_Model_enter 56 = .ok (.getfield 16, 3) := by decide +kernel
theorem d_Model_enter_59 : decode b_Model_enter 59 = .ok (.iload 5, 2) := by decide +kernel
theorem d_Model_enter_61 : decode b_Model_enter 61 = .ok (.iload_n 1, 1) := by decide +kernel
theorem d_Model_enter_62 : decode b_Model_enter 62 = .ok (.iastore, 1) := by decide +kernel
theorem d_Model_enter_63 : decode b_Model_enter 63 = .ok (.aload_n 0, 1) := by decide +kernel
theorem d_Model_enter_64 : decode b_Model_enter 64 = .ok (.getfield 19, 3) := by decide +kernel
theorem d_Model_enter_67 : decode b_Model_enter 67 = .ok (.iload 5, 2) := by decide +kernel
theorem d_Model_enter_69 : decode b_Model_enter 69 = .ok (.iload_n 2, 1) := by decide +kernel
theorem d_Model_enter_70 : decode b_Model_enter 70 = .ok (.iastore, 1) := by decide +kernel
theorem d_Model_enter_71 : decode b_Model_enter 71 = .ok (.iload 4, 2) := by decide +kernel
theorem d_Model_enter_73 : decode b_Model_enter 73 = .ok (.ireturn, 1) := by decide +kernel
theorem d_Model_nextOld_0 : decode b_Model_nextOld 0 = .ok (.iconst 0, 1) := by decide +kernel
theorem d_Model_nextOld_1 : decode b_Model_nextOld 1 = .ok (.istore_n 1, 1) := by decide +kernel
theorem d_Model_nextOld_2 : decode b_Model_nextOld 2 = .ok (.iload_n 1, 1) := by decide +kernel
theorem d_Model_nextOld_3 : decode b_Model_nextOld 3 = .ok (.aload_n 0, 1) := by decide +kernel
theorem d_Model_nextOld_4 : decode b_Model_nextOld 4 = .ok (.getfield 31, 3) := by decide +kernel
theorem d_Model_nextOld_7 : decode b_Model_nextOld 7 = .ok (.if_icmp .ge 28, 3) := by decide +kernel
theorem d_Model_nextOld_10 : decode b_Model_nextOld 10 = .ok (.aload_n 0, 1) := by decide +kernel
theorem d_Model_nextOld_11 : decode b_Model_nextOld 11 = .ok (.getfield 121, 3) := by decide +kernel
theorem d_Model_nextOld_14 : decode b_Model_nextOld 14 = .ok (.ifCond .eq 15, 3) := by decide +kernel
theorem d_Model_nextOld_17 : decode b_Model_nextOld 17 = .ok (.aload_n 0, 1) := by decide +kernel
theorem d_Model_nextOld_18 : decode b_Model_nextOld 18 = .ok (.getfield 22, 3) := by decide +kernel
theorem d_Model_nextOld_21 : decode b_Model_nextOld 21 = .ok (.iload_n 1, 1) := by decide +kernel
theorem d_Model_nextOld_22 : decode b_Model_nextOld 22 = .ok (.iaload, 1) := by decide +kernel
theorem d_Model_nextOld_23 : decode b_Model_nextOld 23 = .ok (.iconst 1, 1) := by decide +kernel
theorem d_Model_nextOld_24 : decode b_Model_nextOld 24 = .ok (.if_icmp .ne 5, 3) := by decide +kernel
theorem d_Model_nextOld_27 : decode b_Model_nextOld 27 = .ok (.iload_n 1, 1) := by decide +kernel
theorem d_Model_nextOld_28 : decode b_Model_nextOld 28 = .ok (.ireturn, 1) := by decide +kernel
theorem d_Model_nextOld_29 : decode b_Model_nextOld 29 = .ok (.iinc 1 1, 3) := by decide +kernel
theorem d_Model_nextOld_32 : decode b_Model_nextOld 32 = .ok (.goto (-30), 3) := by decide +kernel
theorem d_Model_nextOld_35 : decode b_Model_nextOld 35 = .ok (.iconst (-1), 1) := by decide +kernel
theorem d_Model_nextOld_36 : decode b_Model_nextOld 36 = .ok (.ireturn, 1) := by decide +kernel
theorem d_Model_step_0 : decode b_Model_step 0 = .ok (.iconst 0, 1) := by decide +kernel
theorem d_Model_step_1 : decode b_Model_step 1 = .ok (.istore_n 1, 1) := by decide +kernel
theorem d_Model_step_2 : decode b_Model_step 2 = .ok (.aload_n 0, 1) := by decide +kernel
theorem d_Model_step_3 : decode b_Model_step 3 = .ok (.invokevirtual 131, 3) := by decide +kernel
theorem d_Model_step_6 : decode b_Model_step 6 = .ok (.istore_n 2, 1) := by decide +kernel
theorem d_Model_step_7 : decode b_Model_step 7 = .ok (.iload_n 2, 1) := by decide +kernel
theorem d_Model_step_8 : decode b_Model_step 8 = .ok (.ifCond .lt 43, 3) := by decide +kernel
theorem d_Model_step_11 : decode b_Model_step 11 = .ok (.iload_n 1, 1) := by decide +kernel
theorem d_Model_step_12 : decode b_Model_step 12 = .ok (.iconst 4, 1) := by decide +kernel
theorem d_Model_step_13 : decode b_Model_step 13 = .ok (.if_icmp .ge 38, 3) := by decide +kernel
theorem d_Model_step_16 : decode b_Model_step 16 = .ok (.aload_n 0, 1) := by decide +kernel
theorem d_Model_step_17 : decode b_Model_step 17 = .ok (.getfield 22, 3) := by decide +kernel
theorem d_Model_step_20 : decode b_Model_step 20 = .ok (.iload_n 2, 1) := by decide +kernel
theorem d_Model_step_21 : decode b_Model_step 21 = .ok (.iconst 2, 1) := by decide +kernel
theorem d_Model_step_22 : decode b_Model_step 22 = .ok (.iastore, 1) := by decide +kernel
theorem d_Model_step_23 : decode b_Model_step 23 = .ok (.aload_n 0, 1) := by decide +kernel
theorem d_Model_step_24 : decode b_Model_step 24 = .ok (.aload_n 0, 1) := by decide +kernel
theorem d_Model_step_25 : decode b_Model_step 25 = .ok (.getfield 25, 3) := by decide +kernel
theorem d_Model_step_28 : decode b_Model_step 28 = .ok (.iload_n 2, 1) := by decide +kernel
theorem d_Model_step_29 : decode b_Model_step 29 = .ok (.iaload, 1) := by decide +kernel
theorem d_Model_step_30 : decode b_Model_step 30 = .ok (.aload_n 0, 1) := by decide +kernel
theorem d_Model_step_31 : decode b_Model_step 31 = .ok (.getfield 28, 3) := by decide +kernel
theorem d_Model_step_34 : decode b_Model_step 34 = .ok (.iload_n 2, 1) := by decide +kernel
theorem d_Model_step_35 : decode b_Model_step 35 = .ok (.iaload, 1) := by decide +kernel
theorem d_Model_step_36 : decode b_Model_step 36 = .ok (.invokevirtual 134, 3) := by decide +kernel
theorem d_Model_step_39 : decode b_Model_step 39 = .ok (.istore_n 3, 1) := by decide +kernel
theorem d_Model_step_40 : decode b_Model_step 40 = .ok (.iinc 1 1, 3) := by decide +kernel
theorem d_Model_step_43 : decode b_Model_step 43 = .ok (.aload_n 0, 1) := by decide +kernel
theorem d_Model_step_44 : decode b_Model_step 44 = .ok (.invokevirtual 131, 3) := by decide +kernel
theorem d_Model_step_47 : decode b_Model_step 47 = .ok (.istore_n 2, 1) := by decide +kernel
theorem d_Model_step_48 : decode b_Model_step 48 = .ok (.goto (-41), 3) := by decide +kernel
theorem d_Model_step_51 : decode b_Model_step 51 = .ok (.aload_n 0, 1) := by decide +kernel
theorem d_Model_step_52 : decode b_Model_step 52 = .ok (.iload_n 2, 1) := by decide +kernel
theorem d_Model_step_53 : decode b_Model_step 53 = .ok (.ifCond .lt 7, 3) := by decide +kernel
theorem d_Model_step_56 : decode b_Model_step 56 = .ok (.iconst 1, 1) := by decide +kernel
theorem d_Model_step_57 : decode b_Model_step 57 = .ok (.goto 4, 3) := by decide +kernel
theorem d_Model_step_60 : decode b_Model_step 60 = .ok (.iconst 0, 1) := by decide +kernel
theorem d_Model_step_61 : decode b_Model_step 61 = .ok (.putfield 121, 3) := by decide +kernel
theorem d_Model_step_64 : decode b_Model_step 64 = .ok (.iload_n 1, 1) := by decide +kernel
theorem d_Model_step_65 : decode b_Model_step 65 = .ok (.ireturn, 1) := by decide +kernel
theorem d_Model_renew_0 : decode b_Model_renew 0 = .ok (.iconst 0, 1) := by decide +kernel
theorem d_Model_renew_1 : decode b_Model_renew 1 = .ok (.istore_n 1, 1) := by decide +kernel
theorem d_Model_renew_2 : decode b_Model_renew 2 = .ok (.aload_n 0, 1) := by decide +kernel
theorem d_Model_renew_3 : decode b_Model_renew 3 = .ok (.getfield 121, 3) := by decide +kernel
theorem d_Model_renew_6 : decode b_Model_renew 6 = .ok (.ifCond .eq 15, 3) := by decide +kernel
theorem d_Model_renew_9 : decode b_Model_renew 9 = .ok (.aload_n 0, 1) := by decide +kernel
theorem d_Model_renew_10 : decode b_Model_renew 10 = .ok (.invokevirtual 137, 3) := by decide +kernel
theorem d_Model_renew_13 : decode b_Model_renew 13 = .ok (.istore_n 2, 1) := by decide +kernel
theorem d_Model_renew_14 : decode b_Model_renew 14 = .ok (.iload_n 1, 1) := by decide +kernel
theorem d_Model_renew_15 : decode b_Model_renew 15 = .ok (.iload_n 2, 1) := by decide +kernel
theorem d_Model_renew_16 : decode b_Model_renew 16 = .ok (.iadd, 1) := by decide +kernel
theorem d_Model_renew_17 : decode b_Model_renew 17 = .ok (.istore_n 1, 1) := by decide +kernel
theorem d_Model_renew_18 : decode b_Model_renew 18 = .ok (.goto (-16), 3) := by decide +kernel
theorem d_Model_renew_21 : decode b_Model_renew 21 = .ok (.aload_n 0, 1) := by decide +kernel
theorem d_Model_renew_22 : decode b_Model_renew 22 = .ok (.aload_n 0, 1) := by decide +kernel
theorem d_Model_renew_23 : decode b_Model_renew 23 = .ok (.invokevirtual 140, 3) := by decide +kernel
theorem d_Model_renew_26 : decode b_Model_renew 26 = .ok (.ifCond .le 7, 3) := by decide +kernel
theorem d_Model_renew_29 : decode b_Model_renew 29 = .ok (.iconst 1, 1) := by decide +kernel
theorem d_Model_renew_30 : decode b_Model_renew 30 = .ok (.goto 4, 3) := by decide +kernel
theorem d_Model_renew_33 : decode b_Model_renew 33 = .ok (.iconst 0, 1) := by decide +kernel
theorem d_Model_renew_34 : decode b_Model_renew 34 = .ok (.putfield 121, 3) := by decide +kernel
theorem d_Model_renew_37 : decode b_Model_renew 37 = .ok (.iconst 0, 1) := by decide +kernel
theorem d_Model_renew_38 : decode b_Model_renew 38 = .ok (.istore_n 2, 1) := by decide +kernel
theorem d_Model_renew_39 : decode b_Model_renew 39 = .ok (.iload_n 2, 1) := by decide +kernel
theorem d_Model_renew_40 : decode b_Model_renew 40 = .ok (.aload_n 0, 1) := by decide +kernel
theorem d_Model_renew_41 : decode b_Model_renew 41 = .ok (.getfield 31, 3) := by decide +kernel
theorem d_Model_renew_44 : decode b_Model_renew 44 = .ok (.if_icmp .ge 52, 3) := by decide +kernel
theorem d_Model_renew_47 : decode b_Model_renew 47 = .ok (.aload_n 0, 1) := by decide +kernel
theorem d_Model_renew_48 : decode b_Model_renew 48 = .ok (.getfield 22, 3) := by decide +kernel
theorem d_Model_renew_51 : decode b_Model_renew 51 = .ok (.iload_n 2, 1) := by decide +kernel
theorem d_Model_renew_52 : decode b_Model_renew 52 = .ok (.aload_n 0, 1) := by decide +kernel
theorem d_Model_renew_53 : decode b_Model_renew 53 = .ok (.getfield 13, 3) := by decide +kernel
theorem d_Model_renew_56 : decode b_Model_renew 56 = .ok (.iload_n 2, 1) := by decide +kernel
theorem d_Model_renew_57 : decode b_Model_renew 57 = .ok (.iaload, 1) := by decide +kernel
theorem d_Model_renew_58 : decode b_Model_renew 58 = .ok (.iastore, 1) := by decide +kernel
theorem d_Model_renew_59 : decode b_Model_renew 59 = .ok (.aload_n 0, 1) := by decide +kernel
theorem d_Model_renew_60 : decode b_Model_renew 60 = .ok (.getfield 25, 3) := by decide +kernel
theorem d_Model_renew_63 : decode b_Model_renew 63 = .ok (.iload_n 2, 1) := by decide +kernel
theorem d_Model_renew_64 : decode b_Model_renew 64 = .ok (.aload_n 0, 1) := by decide +kernel
theorem d_Model_renew_65 : decode b_Model_renew 65 = .ok (.getfield 16, 3) := by decide +kernel
theorem d_Model_renew_68 : decode b_Model_renew 68 = .ok (.iload_n 2, 1) := by decide +kernel
theorem d_Model_renew_69 : decode b_Model_renew 69 = .ok (.iaload, 1) := by decide +kernel
theorem d_Model_renew_70 : decode b_Model_renew 70 = .ok (.iastore, 1) := by decide +kernel
theorem d_Model_renew_71 : decode b_Model_renew 71 = .ok (.aload_n 0, 1) := by decide +kernel
theorem d_Model_renew_72 : decode b_Model_renew 72 = .ok (.getfield 28, 3) := by decide +kernel
theorem d_Model_renew_75 : decode b_Model_renew 75 = .ok (.iload_n 2, 1) := by decide +kernel
theorem d_Model_renew_76 : decode b_Model_renew 76 = .ok (.aload_n 0, 1) := by decide +kernel
theorem d_Model_renew_77 : decode b_Model_renew 77 = .ok (.getfield 19, 3) := by decide +kernel
theorem d_Model_renew_80 : decode b_Model_renew 80 = .ok (.iload_n 2, 1) := by decide +kernel
theorem d_Model_renew_81 : decode b_Model_renew 81 = .ok (.iaload, 1) := by decide +kernel
theorem d_Model_renew_82 : decode b_Model_renew 82 = .ok (.iastore, 1) := by decide +kernel
theorem d_Model_renew_83 : decode b_Model_renew 83 = .ok (.aload_n 0, 1) := by decide +kernel
theorem d_Model_renew_84 : decode b_Model_renew 84 = .ok (.getfield 13, 3) := by decide +kernel
theorem d_Model_renew_87 : decode b_Model_renew 87 = .ok (.iload_n 2, 1) := by decide +kernel
theorem d_Model_renew_88 : decode b_Model_renew 88 = .ok (.iconst 0, 1) := by decide +kernel
theorem d_Model_renew_89 : decode b_Model_renew 89 = .ok (.iastore, 1) := by decide +kernel
theorem d_Model_renew_90 : decode b_Model_renew 90 = .ok (.iinc 2 1, 3) := by decide +kernel
theorem d_Model_renew_93 : decode b_Model_renew 93 = .ok (.goto (-54), 3) := by decide +kernel
theorem d_Model_renew_96 : decode b_Model_renew 96 = .ok (.aload_n 0, 1) := by decide +kernel
theorem d_Model_renew_97 : decode b_Model_renew 97 = .ok (.aload_n 0, 1) := by decide +kernel
theorem d_Model_renew_98 : decode b_Model_renew 98 = .ok (.getfield 77, 3) := by decide +kernel
theorem d_Model_renew_101 : decode b_Model_renew 101 = .ok (.putfield 125, 3) := by decide +kernel
theorem d_Model_renew_104 : decode b_Model_renew 104 = .ok (.aload_n 0, 1) := by decide +kernel
theorem d_Model_renew_105 : decode b_Model_renew 105 = .ok (.aload_n 0, 1) := by decide +kernel
theorem d_Model_renew_106 : decode b_Model_renew 106 = .ok (.getfield 81, 3) := by decide +kernel
theorem d_Model_renew_109 : decode b_Model_renew 109 = .ok (.putfield 128, 3) := by decide +kernel
theorem d_Model_renew_112 : decode b_Model_renew 112 = .ok (.aload_n 0, 1) := by decide +kernel
theorem d_Model_renew_113 : decode b_Model_renew 113 = .ok (.invokevirtual 58, 3) := by decide +kernel
theorem d_Model_renew_116 : decode b_Model_renew 116 = .ok (.aload_n 0, 1) := by decide +kernel
theorem d_Model_renew_117 : decode b_Model_renew 117 = .ok (.iconst 0, 1) := by decide +kernel
theorem d_Model_renew_118 : decode b_Model_renew 118 = .ok (.putfield 143, 3) := by decide +kernel
theorem d_Model_renew_121 : decode b_Model_renew 121 = .ok (.aload_n 0, 1) := by decide +kernel
theorem d_Model_renew_122 : decode b_Model_renew 122 = .ok (.dup, 1) := by decide +kernel
theorem d_Model_renew_123 : decode b_Model_renew 123 = .ok (.getfield 146, 3) := by decide +kernel
theorem d_Model_renew_126 : decode b_Model_renew 126 = .ok (.iconst 1, 1) := by decide +kernel
theorem d_Model_renew_127 : decode b_Model_renew 127 = .ok (.iadd, 1) := by decide +kernel
theorem d_Model_renew_128 : decode b_Model_renew 128 = .ok (.putfield 146, 3) := by decide +kernel
theorem d_Model_renew_131 : decode b_Model_renew 131 = .ok (.iload_n 1, 1) := by decide +kernel
theorem d_Model_renew_132 : decode b_Model_renew 132 = .ok (.ireturn, 1) := by decide +kernel
theorem d_Model_put_0 : decode b_Model_put 0 = .ok (.aload_n 0, 1) := by decide +kernel
theorem d_Model_put_1 : decode b_Model_put 1 = .ok (.invokevirtual 137, 3) := by decide +kernel
theorem d_Model_put_4 : decode b_Model_put 4 = .ok (.istore_n 3, 1) := by decide +kernel
theorem d_Model_put_5 : decode b_Model_put 5 = .ok (.aload_n 0, 1) := by decide +kernel
theorem d_Model_put_6 : decode b_Model_put 6 = .ok (.iload_n 1, 1) := by decide +kernel
theorem d_Model_put_7 : decode b_Model_put 7 = .ok (.invokevirtual 149, 3) := by decide +kernel
theorem d_Model_put_10 : decode b_Model_put 10 = .ok (.istore 4, 2) := by decide +kernel
theorem d_Model_put_12 : decode b_Model_put 12 = .ok (.aload_n 0, 1) := by decide +kernel
theorem d_Model_put_13 : decode b_Model_put 13 = .ok (.iload_n 1, 1) := by decide +kernel
theorem d_Model_put_14 : decode b_Model_put 14 = .ok (.invokevirtual 152, 3) := by decide +kernel
theorem d_Model_put_17 : decode b_Model_put 17 = .ok (.istore 5, 2) := by decide +kernel
theorem d_Model_put_19 : decode b_Model_put 19 = .ok (.iload 4, 2) := by decide +kernel
theorem d_Model_put_21 : decode b_Model_put 21 = .ok (.ifCond .lt 13, 3) := by decide +kernel
theorem d_Model_put_24 : decode b_Model_put 24 = .ok (.aload_n 0, 1) := by decide +kernel
theorem d_Model_put_25 : decode b_Model_put 25 = .ok (.getfield 19, 3) := by decide +kernel
theorem d_Model_put_28 : decode b_Model_put 28 = .ok (.iload 4, 2) := by decide +kernel
theorem d_Model_put_30 : decode b_Model_put 30 = .ok (.iload_n 2, 1) := by decide +kernel
theorem d_Model_put_31 : decode b_Model_put 31 = .ok (.iastore, 1) := by decide +kernel
theorem d_Model_put_32 : decode b_Model_put 32 = .ok (.iconst 1, 1) := by decide +kernel
theorem d_Model_put_33 : decode b_Model_put 33 = .ok (.ireturn, 1) := by decide +kernel
theorem d_Model_put_34 : decode b_Model_put 34 = .ok (.iload 5, 2) := by decide +kernel
theorem d_Model_put_36 : decode b_Model_put 36 = .ok (.ifCond .lt 13, 3) := by decide +kernel
theorem d_Model_put_39 : decode b_Model_put 39 = .ok (.aload_n 0, 1) := by decide +kernel
theorem d_Model_put_40 : decode b_Model_put 40 = .ok (.getfield 28, 3) := by decide +kernel
theorem d_Model_put_43 : decode b_Model_put 43 = .ok (.iload 5, 2) := by decide +kernel
theorem d_Model_put_45 : decode b_Model_put 45 = .ok (.iload_n 2, 1) := by decide +kernel
theorem d_Model_put_46 : decode b_Model_put 46 = .ok (.iastore, 1) := by decide +kernel
theorem d_Model_put_47 : decode b_Model_put 47 = .ok (.iconst 1, 1) := by decide +kernel
theorem d_Model_put_48 : decode b_Model_put 48 = .ok (.ireturn, 1) := by decide +kernel
theorem d_Model_put_49 : decode b_Model_put 49 = .ok (.aload_n 0, 1) := by decide +kernel
theorem d_Model_put_50 : decode b_Model_put 50 = .ok (.invokevirtual 140, 3) := by decide +kernel
theorem d_Model_put_53 : decode b_Model_put 53 = .ok (.aload_n 0, 1) := by decide +kernel
theorem d_Model_put_54 : decode b_Model_put 54 = .ok (.invokevirtual 155, 3) := by decide +kernel
theorem d_Model_put_57 : decode b_Model_put 57 = .ok (.iadd, 1) := by decide +kernel
theorem d_Model_put_58 : decode b_Model_put 58 = .ok (.iconst 3, 1) := by decide +kernel
theorem d_Model_put_59 : decode b_Model_put 59 = .ok (.aload_n 0, 1) := by decide +kernel
theorem d_Model_put_60 : decode b_Model_put 60 = .ok (.getfield 31, 3) := by decide +kernel
theorem d_Model_put_63 : decode b_Model_put 63 = .ok (.imul, 1) := by decide +kernel
theorem d_Model_put_64 : decode b_Model_put 64 = .ok (.iconst 4, 1) := by decide +kernel
theorem d_Model_put_65 : decode b_Model_put 65 = .ok (.idiv, 1) := by decide +kernel
theorem d_Model_put_66 : decode b_Model_put 66 = .ok (.if_icmp .ne 5, 3) := by decide +kernel
theorem d_Model_put_69 : decode b_Model_put 69 = .ok (.iconst 2, 1) := by decide +kernel
theorem d_Model_put_70 : decode b_Model_put 70 = .ok (.ireturn, 1) := by decide +kernel
theorem d_Model_put_71 : decode b_Model_put 71 = .ok (.aload_n 0, 1) := by decide +kernel
theorem d_Model_put_72 : decode b_Model_put 72 = .ok (.iload_n 1, 1) := by decide +kernel
theorem d_Model_put_73 : decode b_Model_put 73 = .ok (.iload_n 2, 1) := by decide +kernel
theorem d_Model_put_74 : decode b_Model_put 74 = .ok (.invokevirtual 134, 3) := by decide +kernel
theorem d_Model_put_77 : decode b_Model_put 77 = .ok (.istore 6, 2) := by decide +kernel
theorem d_Model_put_79 : decode b_Model_put 79 = .ok (.aload_n 0, 1) := by decide +kernel
theorem d_Model_put_80 : decode b_Model_put 80 = .ok (.iload 6, 2) := by decide +kernel
theorem d_Model_put_82 : decode b_Model_put 82 = .ok (.aload_n 0, 1) := by decide +kernel
theorem d_Model_put_83 : decode b_Model_put 83 = .ok (.getfield 143, 3) := by decide +kernel
theorem d_Model_put_86 : decode b_Model_put 86 = .ok (.if_icmp .le 8, 3) := by decide +kernel
theorem d_Model_put_89 : decode b_Model_put 89 = .ok (.iload 6, 2) := by decide +kernel
theorem d_Model_put_91 : decode b_Model_put 91 = .ok (.goto 7, 3) := by decide +kernel
theorem d_Model_put_94 : decode b_Model_put 94 = .ok (.aload_n 0, 1) := by decide +kernel
theorem d_Model_put_95 : decode b_Model_put 95 = .ok (.getfield 143, 3) := by decide +kernel
theorem d_Model_put_98 : decode b_Model_put 98 = .ok (.putfield 143, 3) := by decide +kernel
theorem d_Model_put_101 : decode b_Model_put 101 = .ok (.iload 6, 2) := by decide +kernel
theorem d_Model_put_103 : decode b_Model_put 103 = .ok (.aload_n 0, 1) := by decide +kernel
theorem d_Model_put_104 : decode b_Model_put 104 = .ok (.getfield 35, 3) := by decide +kernel
theorem d_Model_put_107 : decode b_Model_put 107 = .ok (.if_icmp .le 8, 3) := by decide +kernel
theorem d_Model_put_110 : decode b_Model_put 110 = .ok (.aload_n 0, 1) := by decide +kernel
theorem d_Model_put_111 : decode b_Model_put 111 = .ok (.invokevirtual 158, 3) := by decide +kernel
theorem d_Model_put_114 : decode b_Model_put 114 = .ok (.istore_n 3, 1) := by decide +kernel
theorem d_Model_put_115 : decode b_Model_put 115 = .ok (.iconst 0, 1) := by decide +kernel
theorem d_Model_put_116 : decode b_Model_put 116 = .ok (.ireturn, 1) := by decide +kernel
theorem d_Model_get_0 : decode b_Model_get 0 = .ok (.aload_n 0, 1) := by decide +kernel
theorem d_Model_get_1 : decode b_Model_get 1 = .ok (.iload_n 1, 1) := by decide +kernel
theorem d_Model_get_2 : decode b_Model_get 2 = .ok (.invokevirtual 149, 3) := by decide +kernel
theorem d_Model_get_5 : decode b_Model_get 5 = .ok (.istore_n 2, 1) := by decide +kernel
theorem d_Model_get_6 : decode b_Model_get 6 = .ok (.aload_n 0, 1) := by decide +kernel
theorem d_Model_get_7 : decode b_Model_get 7 = .ok (.iload_n 1, 1) := by decide +kernel
theorem d_Model_get_8 : decode b_Model_get 8 = .ok (.invokevirtual 152, 3) := by decide +kernel
theorem d_Model_get_11 : decode b_Model_get 11 = .ok (.istore_n 3, 1) := by decide +kernel
theorem d_Model_get_12 : decode b_Model_get 12 = .ok (.iload_n 2, 1) := by decide +kernel
theorem d_Model_get_13 : decode b_Model_get 13 = .ok (.ifCond .lt 12, 3) := by decide +kernel
theorem d_Model_get_16 : decode b_Model_get 16 = .ok (.aload_n 0, 1) := by decide +kernel
theorem d_Model_get_17 : decode b_Model_get 17 = .ok (.getfield 19, 3) := by decide +kernel
theorem d_Model_get_20 : decode b_Model_get 20 = .ok (.iload_n 2, 1) := by decide +kernel
theorem d_Model_get_21 : decode b_Model_get 21 = .ok (.iaload, 1) := by decide +kernel
theorem d_Model_get_22 : decode b_Model_get 22 = .ok (.goto 17, 3) := by decide +kernel
theorem d_Model_get_25 : decode b_Model_get 25 = .ok (.iload_n 3, 1) := by decide +kernel
theorem d_Model_get_26 : decode b_Model_get 26 = .ok (.ifCond .lt 12, 3) := by decide +kernel
theorem d_Model_get_29 : decode b_Model_get 29 = .ok (.aload_n 0, 1) := by decide +kernel
theorem d_Model_get_30 : decode b_Model_get 30 = .ok (.getfield 28, 3) := by decide +kernel
theorem d_Model_get_33 : decode b_Model_get 33 = .ok (.iload_n 3, 1) := by decide +kernel
theorem d_Model_get_34 : decode b_Model_get 34 = .ok (.iaload, 1) := by decide +kernel
theorem d_Model_get_35 : decode b_Model_get 35 = .ok (.goto 4, 3) := by decide +kernel
theorem d_Model_get_38 : decode b_Model_get 38 = .ok (.iconst 0, 1) := by decide +kernel
theorem d_Model_get_39 : decode b_Model_get 39 = .ok (.ireturn, 1) := by decide +kernel
theorem d_Model_has_0 : decode b_Model_has 0 = .ok (.aload_n 0, 1) := by decide +kernel
theorem d_Model_has_1 : decode b_Model_has 1 = .ok (.iload_n 1, 1) := by decide +kernel
theorem d_Model_has_2 : decode b_Model_has 2 = .ok (.invokevirtual 149, 3) := by decide +kernel
theorem d_Model_has_5 : decode b_Model_has 5 = .ok (.ifCond .ge 11, 3) := by decide +kernel
theorem d_Model_has_8 : decode b_Model_has 8 = .ok (.aload_n 0, 1) := by decide +kernel
theorem d_Model_has_9 : decode b_Model_has 9 = .ok (.iload_n 1, 1) := by decide +kernel
theorem d_Model_has_10 : decode b_Model_has 10 = .ok (.invokevirtual 152, 3) := by decide +kernel
theorem d_Model_has_13 : decode b_Model_has 13 = .ok (.ifCond .lt 7, 3) := by decide +kernel
theorem d_Model_has_16 : decode b_Model_has 16 = .ok (.iconst 1, 1) := by decide +kernel
theorem d_Model_has_17 : decode b_Model_has 17 = .ok (.goto 4, 3) := by decide +kernel
theorem d_Model_has_20 : decode b_Model_has 20 = .ok (.iconst 0, 1) := by decide +kernel
theorem d_Model_has_21 : decode b_Model_has 21 = .ok (.ireturn, 1) := by decide +kernel
theorem d_Model_behind_0 : decode b_Model_behind 0 = .ok (.iload_n 1, 1) := by decide +kernel
theorem d_Model_behind_1 : decode b_Model_behind 1 = .ok (.iload_n 2, 1) := by decide +kernel
theorem d_Model_behind_2 : decode b_Model_behind 2 = .ok (.isub, 1) := by decide +kernel
theorem d_Model_behind_3 : decode b_Model_behind 3 = .ok (.aload_n 0, 1) := by decide +kernel
theorem d_Model_behind_4 : decode b_Model_behind 4 = .ok (.getfield 31, 3) := by decide +kernel
theorem d_Model_behind_7 : decode b_Model_behind 7 = .ok (.iadd, 1) := by decide +kernel
theorem d_Model_behind_8 : decode b_Model_behind 8 = .ok (.aload_n 0, 1) := by decide +kernel
theorem d_Model_behind_9 : decode b_Model_behind 9 = .ok (.getfield 31, 3) := by decide +kernel
theorem d_Model_behind_12 : decode b_Model_behind 12 = .ok (.irem, 1) := by decide +kernel
theorem d_Model_behind_13 : decode b_Model_behind 13 = .ok (.ireturn, 1) := by decide +kernel
theorem d_Model_close_0 : decode b_Model_close 0 = .ok (.iload_n 1, 1) := by decide +kernel
theorem d_Model_close_1 : decode b_Model_close 1 = .ok (.istore_n 2, 1) := by decide +kernel
theorem d_Model_close_2 : decode b_Model_close 2 = .ok (.aload_n 0, 1) := by decide +kernel
theorem d_Model_close_3 : decode b_Model_close 3 = .ok (.getfield 13, 3) := by decide +kernel
theorem d_Model_close_6 : decode b_Model_close 6 = .ok (.iload_n 2, 1) := by decide +kernel
theorem d_Model_close_7 : decode b_Model_close 7 = .ok (.iconst 0, 1) := by decide +kernel
theorem d_Model_close_8 : decode b_Model_close 8 = .ok (.iastore, 1) := by decide +kernel
theorem d_Model_close_9 : decode b_Model_close 9 = .ok (.iconst 1, 1) := by decide +kernel
theorem d_Model_close_10 : decode b_Model_close 10 = .ok (.istore_n 3, 1) := by decide +kernel
theorem d_Model_close_11 : decode b_Model_close 11 = .ok (.aload_n 0, 1) := by decide +kernel
theorem d_Model_close_12 : decode b_Model_close 12 = .ok (.getfield 13, 3) := by decide +kernel
theorem d_Model_close_15 : decode b_Model_close 15 = .ok (.iload_n 1, 1) := by decide +kernel
theorem d_Model_close_16 : decode b_Model_close 16 = .ok (.iload_n 3, 1) := by decide +kernel
theorem d_Model_close_17 : decode b_Model_close 17 = .ok (.iadd, 1) := by decide +kernel
theorem d_Model_close_18 : decode b_Model_close 18 = .ok (.aload_n 0, 1) := by decide +kernel
theorem d_Model_close_19 : decode b_Model_close 19 = .ok (.getfield 31, 3) := by decide +kernel
theorem d_Model_close_22 : decode b_Model_close 22 = .ok (.irem, 1) := by decide +kernel
theorem d_Model_close_23 : decode b_Model_close 23 = .ok (.iaload, 1) := by decide +kernel
theorem d_Model_close_24 : decode b_Model_close 24 = .ok (.ifCond .eq 111, 3) := by decide +kernel
theorem d_Model_close_27 : decode b_Model_close 27 = .ok (.iload_n 1, 1) := by decide +kernel
theorem d_Model_close_28 : decode b_Model_close 28 = .ok (.iload_n 3, 1) := by decide +kernel
theorem d_Model_close_29 : decode b_Model_close 29 = .ok (.iadd, 1) := by decide +kernel
theorem d_Model_close_30 : decode b_Model_close 30 = .ok (.aload_n 0, 1) := by decide +kernel
theorem d_Model_close_31 : decode b_Model_close 31 = .ok (.getfield 31, 3) := by decide +kernel
theorem d_Model_close_34 : decode b_Model_close 34 = .ok (.irem, 1) := by decide +kernel
theorem d_Model_close_35 : decode b_Model_close 35 = .ok (.istore 4, 2) := by decide +kernel
theorem d_Model_close_37 : decode b_Model_close 37 = .ok (.aload_n 0, 1) := by decide +kernel
theorem d_Model_close_38 : decode b_Model_close 38 = .ok (.aload_n 0, 1) := by decide +kernel
theorem d_Model_close_39 : decode b_Model_close 39 = .ok (.getfield 16, 3) := by decide +kernel
theorem d_Model_close_42 : decode b_Model_close 42 = .ok (.iload 4, 2) := by decide +kernel
theorem d_Model_close_44 : decode b_Model_close 44 = .ok (.iaload, 1) := by decide +kernel
theorem d_Model_close_45 : decode b_Model_close 45 = .ok (.invokevirtual 118, 3) := by decide +kernel
theorem d_Model_close_48 : decode b_Model_close 48 = .ok (.istore 5, 2) := by decide +kernel
theorem d_Model_close_50 : decode b_Model_close 50 = .ok (.iload 5, 2) := by decide +kernel
theorem d_Model_close_52 : decode b_Model_close 52 = .ok (.iload_n 2, 1) := by decide +kernel
theorem d_Model_close_53 : decode b_Model_close 53 = .ok (.if_icmp .eq 24, 3) := by decide +kernel
theorem d_Model_close_56 : decode b_Model_close 56 = .ok (.aload_n 0, 1) := by decide +kernel
theorem d_Model_close_57 : decode b_Model_close 57 = .ok (.iload 5, 2) := by decide +kernel
theorem d_Model_close_59 : decode b_Model_close 59 = .ok (.iload_n 2, 1) := by decide +kernel
theorem d_Model_close_60 : decode b_Model_close 60 = .ok (.invokevirtual 161, 3) := by decide +kernel
theorem d_Model_close_63 : decode b_Model_close 63 = .ok (.aload_n 0, 1) := by decide +kernel
theorem d_Model_close_64 : decode b_Model_close 64 = .ok (.iload 4, 2) := by decide +kernel
theorem d_Model_close_66 : decode b_Model_close 66 = .ok (.iload_n 2, 1) := by decide +kernel
theorem d_Model_close_67 : decode b_Model_close 67 = .ok (.invokevirtual 161, 3) := by decide +kernel
theorem d_Model_close_70 : decode b_Model_close 70 = .ok (.if_icmp .gt 7, 3) := by decide +kernel
theorem d_Model_close_73 : decode b_Model_close 73 = .ok (.iconst 1, 1) := by decide +kernel
theorem d_Model_close_74 : decode b_Model_close 74 = .ok (.goto 4, 3) := by decide +kernel
theorem d_Model_close_77 : decode b_Model_close 77 = .ok (.iconst 0, 1) := by decide +kernel
theorem d_Model_close_78 : decode b_Model_close 78 = .ok (.istore 6, 2) := by decide +kernel
theorem d_Model_close_80 : decode b_Model_close 80 = .ok (.iload 6, 2) := by decide +kernel
theorem d_Model_close_82 : decode b_Model_close 82 = .ok (.ifCond .ne 47, 3) := by decide +kernel
theorem d_Model_close_85 : decode b_Model_close 85 = .ok (.aload_n 0, 1) := by decide +kernel
theorem d_Model_close_86 : decode b_Model_close 86 = .ok (.getfield 13, 3) := by decide +kernel
theorem d_Model_close_89 : decode b_Model_close 89 = .ok (.iload_n 2, 1) := by decide +kernel
theorem d_Model_close_90 : decode b_Model_close 90 = .ok (.iconst 1, 1) := by decide +kernel
theorem d_Model_close_91 : decode b_Model_close 91 = .ok (.iastore, 1) := by decide +kernel
theorem d_Model_close_92 : decode b_Model_close 92 = .ok (.aload_n 0, 1) := by decide +kernel
theorem d_Model_close_93 : decode b_Model_close 93 = .ok (.getfield 16, 3) := by decide +kernel
theorem d_Model_close_96 : decode b_Model_close 96 = .ok (.iload_n 2, 1) := by decide +kernel
theorem d_Model_close_97 : decode b_Model_close 97 = .ok (.aload_n 0, 1) := by decide +kernel
theorem d_Model_close_98 : decode b_Model_close 98 = .ok (.getfield 16, 3) := by decide +kernel
theorem d_Model_close_101 : decode b_Model_close 101 = .ok (.iload 4, 2) := by decide +kernel
theorem d_Model_close_103 : decode b_Model_close 103 = .ok (.iaload, 1) := by decide +kernel
theorem d_Model_close_104 : decode b_Model_close 104 = .ok (.iastore, 1) := by decide +kernel
theorem d_Model_close_105 : decode b_Model_close 105 = .ok (.aload_n 0, 1) := by decide +kernel
theorem d_Model_close_106 : decode b_Model_close 106 = .ok (.getfield 19, 3) := by decide +kernel
theorem d_Model_close_109 : decode b_Model_close 109 = .ok (.iload_n 2, 1) := by decide +kernel
theorem d_Model_close_110 : decode b_Model_close 110 = .ok (.aload_n 0, 1) := by decide +kernel
theorem d_Model_close_111 : decode b_Model_close 111 = .ok (.getfield 19, 3) := by decide +kernel
theorem d_Model_close_114 : decode b_Model_close 114 = .ok (.iload 4, 2) := by decide +kernel
theorem d_Model_close_116 : decode b_Model_close 116 = .ok (.iaload, 1) := by decide +kernel
theorem d_Model_close_117 : decode b_Model_close 117 = .ok (.iastore, 1) := by decide +kernel
theorem d_Model_close_118 : decode b_Model_close 118 = .ok (.aload_n 0, 1) := by decide +kernel
theorem d_Model_close_119 : decode b_Model_close 119 = .ok (.getfield 13, 3) := by decide +kernel
theorem d_Model_close_122 : decode b_Model_close 122 = .ok (.iload 4, 2) := by decide +kernel
theorem d_Model_close_124 : decode b_Model_close 124 = .ok (.iconst 0, 1) := by decide +kernel
theorem d_Model_close_125 : decode b_Model_close 125 = .ok (.iastore, 1) := by decide +kernel
theorem d_Model_close_126 : decode b_Model_close 126 = .ok (.iload 4, 2) := by decide +kernel
theorem d_Model_close_128 : decode b_Model_close 128 = .ok (.istore_n 2, 1) := by decide +kernel
theorem d_Model_close_129 : decode b_Model_close 129 = .ok (.iinc 3 1, 3) := by decide +kernel
theorem d_Model_close_132 : decode b_Model_close 132 = .ok (.goto (-121), 3) := by decide +kernel
theorem d_Model_close_135 : decode b_Model_close 135 = .ok (.return_, 1) := by decide +kernel
theorem d_Model_remove_0 : decode b_Model_remove 0 = .ok (.aload_n 0, 1) := by decide +kernel
theorem d_Model_remove_1 : decode b_Model_remove 1 = .ok (.iload_n 1, 1) := by decide +kernel
theorem d_Model_remove_2 : decode b_Model_remove 2 = .ok (.invokevirtual 149, 3) := by decide +kernel
theorem d_Model_remove_5 : decode b_Model_remove 5 = .ok (.istore_n 2, 1) := by decide +kernel
theorem d_Model_remove_6 : decode b_Model_remove 6 = .ok (.iload_n 2, 1) := by decide +kernel
theorem d_Model_remove_7 : decode b_Model_remove 7 = .ok (.ifCond .lt 10, 3) := by decide +kernel
theorem d_Model_remove_10 : decode b_Model_remove 10 = .ok (.aload_n 0, 1) := by decide +kernel
theorem d_Model_remove_11 : decode b_Model_remove 11 = .ok (.iload_n 2, 1) := by decide +kernel
theorem d_Model_remove_12 : decode b_Model_remove 12 = .ok (.invokevirtual 164, 3) := by decide +kernel
theorem d_Model_remove_15 : decode b_Model_remove 15 = .ok (.iconst 1, 1) := by decide +kernel
theorem d_Model_remove_16 : decode b_Model_remove 16 = .ok (.ireturn, 1) := by decide +kernel
theorem d_Model_remove_17 : decode b_Model_remove 17 = .ok (.aload_n 0, 1) := by decide +kernel
theorem d_Model_remove_18 : decode b_Model_remove 18 = .ok (.iload_n 1, 1) := by decide +kernel
theorem d_Model_remove_19 : decode b_Model_remove 19 = .ok (.invokevirtual 152, 3) := by decide +kernel
theorem d_Model_remove_22 : decode b_Model_remove 22 = .ok (.istore_n 3, 1) := by decide +kernel
theorem d_Model_remove_23 : decode b_Model_remove 23 = .ok (.iload_n 3, 1) := by decide +kernel
theorem d_Model_remove_24 : decode b_Model_remove 24 = .ok (.ifCond .lt 26, 3) := by decide +kernel
theorem d_Model_remove_27 : decode b_Model_remove 27 = .ok (.aload_n 0, 1) := by decide +kernel
theorem d_Model_remove_28 : decode b_Model_remove 28 = .ok (.getfield 22, 3) := by decide +kernel
theorem d_Model_remove_31 : decode b_Model_remove 31 = .ok (.iload_n 3, 1) := by decide +kernel
theorem d_Model_remove_32 : decode b_Model_remove 32 = .ok (.iconst 2, 1) := by decide +kernel
theorem d_Model_remove_33 : decode b_Model_remove 33 = .ok (.iastore, 1) := by decide +kernel
theorem d_Model_remove_34 : decode b_Model_remove 34 = .ok (.aload_n 0, 1) := by decide +kernel
theorem d_Model_remove_35 : decode b_Model_remove 35 = .ok (.aload_n 0, 1) := by decide +kernel
theorem d_Model_remove_36 : decode b_Model_remove 36 = .ok (.invokevirtual 131, 3) := by decide +kernel
theorem d_Model_remove_39 : decode b_Model_remove 39 = .ok (.ifCond .lt 7, 3) := by decide +kernel
theorem d_Model_remove_42 : decode b_Model_remove 42 = .ok (.iconst 1, 1) := by decide +kernel
theorem d_Model_remove_43 : decode b_Model_remove 43 = .ok (.goto 4, 3) := by decide +kernel
theorem d_Model_remove_46 : decode b_Model_remove 46 = .ok (.iconst 0, 1) := by decide +kernel
theorem d_Model_remove_47 : decode b_Model_remove 47 = .ok (.putfield 121, 3) := by decide +kernel
theorem d_Model_remove_50 : decode b_Model_remove 50 = .ok (.iload_n 3, 1) := by decide +kernel
theorem d_Model_remove_51 : decode b_Model_remove 51 = .ok (.ifCond .lt 7, 3) := by decide +kernel
theorem d_Model_remove_54 : decode b_Model_remove 54 = .ok (.iconst 1, 1) := by decide +kernel
theorem d_Model_remove_55 : decode b_Model_remove 55 = .ok (.goto 4, 3) := by decide +kernel
theorem d_Model_remove_58 : decode b_Model_remove 58 = .ok (.iconst 0, 1) := by decide +kernel
theorem d_Model_remove_59 : decode b_Model_remove 59 = .ok (.ireturn, 1) := by decide +kernel
theorem d_Model_size_0 : decode b_Model_size 0 = .ok (.aload_n 0, 1) := by decide +kernel
theorem d_Model_size_1 : decode b_Model_size 1 = .ok (.invokevirtual 140, 3) := by decide +kernel
theorem d_Model_size_4 : decode b_Model_size 4 = .ok (.aload_n 0, 1) := by decide +kernel
theorem d_Model_size_5 : decode b_Model_size 5 = .ok (.invokevirtual 155, 3) := by decide +kernel
theorem d_Model_size_8 : decode b_Model_size 8 = .ok (.iadd, 1) := by decide +kernel
theorem d_Model_size_9 : decode b_Model_size 9 = .ok (.ireturn, 1) := by decide +kernel
theorem d_Model_probeMax_0 : decode b_Model_probeMax 0 = .ok (.aload_n 0, 1) := by decide +kernel
theorem d_Model_probeMax_1 : decode b_Model_probeMax 1 = .ok (.getfield 143, 3) := by decide +kernel
theorem d_Model_probeMax_4 : decode b_Model_probeMax 4 = .ok (.ireturn, 1) := by decide +kernel
theorem d_Model_rekey_0 : decode b_Model_rekey 0 = .ok (.aload_n 0, 1) := by decide +kernel
theorem d_Model_rekey_1 : decode b_Model_rekey 1 = .ok (.invokevirtual 158, 3) := by decide +kernel
theorem d_Model_rekey_4 : decode b_Model_rekey 4 = .ok (.ireturn, 1) := by decide +kernel
theorem d_Model_migrateStep_0 : decode b_Model_migrateStep 0 = .ok (.aload_n 0, 1) := by decide +kernel
theorem d_Model_migrateStep_1 : decode b_Model_migrateStep 1 = .ok (.invokevirtual 137, 3) := by decide +kernel
theorem d_Model_migrateStep_4 : decode b_Model_migrateStep 4 = .ok (.istore_n 1, 1) := by decide +kernel
theorem d_Model_migrateStep_5 : decode b_Model_migrateStep 5 = .ok (.aload_n 0, 1) := by decide +kernel
theorem d_Model_migrateStep_6 : decode b_Model_migrateStep 6 = .ok (.invokevirtual 155, 3) := by decide +kernel
theorem d_Model_migrateStep_9 : decode b_Model_migrateStep 9 = .ok (.ireturn, 1) := by decide +kernel
theorem d_Model_hashLo_0 : decode b_Model_hashLo 0 = .ok (.aload_n 0, 1) := by decide +kernel
theorem d_Model_hashLo_1 : decode b_Model_hashLo 1 = .ok (.aload_n 0, 1) := by decide +kernel
theorem d_Model_hashLo_2 : decode b_Model_hashLo 2 = .ok (.getfield 77, 3) := by decide +kernel
theorem d_Model_hashLo_5 : decode b_Model_hashLo 5 = .ok (.aload_n 0, 1) := by decide +kernel
theorem d_Model_hashLo_6 : decode b_Model_hashLo 6 = .ok (.getfield 81, 3) := by decide +kernel
theorem d_Model_hashLo_9 : decode b_Model_hashLo 9 = .ok (.iload_n 1, 1) := by decide +kernel
theorem d_Model_hashLo_10 : decode b_Model_hashLo 10 = .ok (.invokevirtual 114, 3) := by decide +kernel
theorem d_Model_hashLo_13 : decode b_Model_hashLo 13 = .ok (.l2i, 1) := by decide +kernel
theorem d_Model_hashLo_14 : decode b_Model_hashLo 14 = .ok (.ireturn, 1) := by decide +kernel
theorem d_Model_hashHi_0 : decode b_Model_hashHi 0 = .ok (.aload_n 0, 1) := by decide +kernel
theorem d_Model_hashHi_1 : decode b_Model_hashHi 1 = .ok (.aload_n 0, 1) := by decide +kernel
theorem d_Model_hashHi_2 : decode b_Model_hashHi 2 = .ok (.getfield 77, 3) := by decide +kernel
theorem d_Model_hashHi_5 : decode b_Model_hashHi 5 = .ok (.aload_n 0, 1) := by decide +kernel
theorem d_Model_hashHi_6 : decode b_Model_hashHi 6 = .ok (.getfield 81, 3) := by decide +kernel
theorem d_Model_hashHi_9 : decode b_Model_hashHi 9 = .ok (.iload_n 1, 1) := by decide +kernel
theorem d_Model_hashHi_10 : decode b_Model_hashHi 10 = .ok (.invokevirtual 114, 3) := by decide +kernel
theorem d_Model_hashHi_13 : decode b_Model_hashHi 13 = .ok (.bipush 32, 2) := by decide +kernel
theorem d_Model_hashHi_15 : decode b_Model_hashHi 15 = .ok (.lushr, 1) := by decide +kernel
theorem d_Model_hashHi_16 : decode b_Model_hashHi 16 = .ok (.l2i, 1) := by decide +kernel
theorem d_Model_hashHi_17 : decode b_Model_hashHi 17 = .ok (.ireturn, 1) := by decide +kernel
theorem d_Model_keyWord_0 : decode b_Model_keyWord 0 = .ok (.iload_n 1, 1) := by decide +kernel
theorem d_Model_keyWord_1 : decode b_Model_keyWord 1 = .ok (.ifCond .lt 17, 3) := by decide +kernel
theorem d_Model_keyWord_4 : decode b_Model_keyWord 4 = .ok (.iload_n 1, 1) := by decide +kernel
theorem d_Model_keyWord_5 : decode b_Model_keyWord 5 = .ok (.iconst 4, 1) := by decide +kernel
theorem d_Model_keyWord_6 : decode b_Model_keyWord 6 = .ok (.if_icmp .ge 12, 3) := by decide +kernel
theorem d_Model_keyWord_9 : decode b_Model_keyWord 9 = .ok (.aload_n 0, 1) := by decide +kernel
theorem d_Model_keyWord_10 : decode b_Model_keyWord 10 = .ok (.getfield 7, 3) := by decide +kernel
theorem d_Model_keyWord_13 : decode b_Model_keyWord 13 = .ok (.iload_n 1, 1) := by decide +kernel
theorem d_Model_keyWord_14 : decode b_Model_keyWord 14 = .ok (.iaload, 1) := by decide +kernel
theorem d_Model_keyWord_15 : decode b_Model_keyWord 15 = .ok (.goto 4, 3) := by decide +kernel
theorem d_Model_keyWord_18 : decode b_Model_keyWord 18 = .ok (.iconst 0, 1) := by decide +kernel
theorem d_Model_keyWord_19 : decode b_Model_keyWord 19 = .ok (.ireturn, 1) := by decide +kernel
theorem d_Model_nth_0 : decode b_Model_nth 0 = .ok (.iload_n 1, 1) := by decide +kernel
theorem d_Model_nth_1 : decode b_Model_nth 1 = .ok (.ifCond .lt 30, 3) := by decide +kernel
theorem d_Model_nth_4 : decode b_Model_nth 4 = .ok (.iload_n 1, 1) := by decide +kernel
theorem d_Model_nth_5 : decode b_Model_nth 5 = .ok (.aload_n 0, 1) := by decide +kernel
theorem d_Model_nth_6 : decode b_Model_nth 6 = .ok (.getfield 31, 3) := by decide +kernel
theorem d_Model_nth_9 : decode b_Model_nth 9 = .ok (.if_icmp .ge 22, 3) := by decide +kernel
theorem d_Model_nth_12 : decode b_Model_nth 12 = .ok (.aload_n 0, 1) := by decide +kernel
theorem d_Model_nth_13 : decode b_Model_nth 13 = .ok (.getfield 13, 3) := by decide +kernel
theorem d_Model_nth_16 : decode b_Model_nth 16 = .ok (.iload_n 1, 1) := by decide +kernel
theorem d_Model_nth_17 : decode b_Model_nth 17 = .ok (.iaload, 1) := by decide +kernel
theorem d_Model_nth_18 : decode b_Model_nth 18 = .ok (.iconst 1, 1) := by decide +kernel
theorem d_Model_nth_19 : decode b_Model_nth 19 = .ok (.if_icmp .ne 12, 3) := by decide +kernel
theorem d_Model_nth_22 : decode b_Model_nth 22 = .ok (.aload_n 0, 1) := by decide +kernel
theorem d_Model_nth_23 : decode b_Model_nth 23 = .ok (.getfield 16, 3) := by decide +kernel
theorem d_Model_nth_26 : decode b_Model_nth 26 = .ok (.iload_n 1, 1) := by decide +kernel
theorem d_Model_nth_27 : decode b_Model_nth 27 = .ok (.iaload, 1) := by decide +kernel
theorem d_Model_nth_28 : decode b_Model_nth 28 = .ok (.goto 4, 3) := by decide +kernel
theorem d_Model_nth_31 : decode b_Model_nth 31 = .ok (.iconst (-1), 1) := by decide +kernel
theorem d_Model_nth_32 : decode b_Model_nth 32 = .ok (.ireturn, 1) := by decide +kernel
theorem d_Model_filled_0 : decode b_Model_filled 0 = .ok (.iload_n 2, 1) := by decide +kernel
theorem d_Model_filled_1 : decode b_Model_filled 1 = .ok (.ifCond .lt 11, 3) := by decide +kernel
theorem d_Model_filled_4 : decode b_Model_filled 4 = .ok (.iload_n 2, 1) := by decide +kernel
theorem d_Model_filled_5 : decode b_Model_filled 5 = .ok (.aload_n 0, 1) := by decide +kernel
theorem d_Model_filled_6 : decode b_Model_filled 6 = .ok (.getfield 31, 3) := by decide +kernel
theorem d_Model_filled_9 : decode b_Model_filled 9 = .ok (.if_icmp .lt 5, 3) := by decide +kernel
theorem d_Model_filled_12 : decode b_Model_filled 12 = .ok (.iconst 0, 1) := by decide +kernel
theorem d_Model_filled_13 : decode b_Model_filled 13 = .ok (.ireturn, 1) := by decide +kernel
theorem d_Model_filled_14 : decode b_Model_filled 14 = .ok (.iload_n 1, 1) := by decide +kernel
theorem d_Model_filled_15 : decode b_Model_filled 15 = .ok (.ifCond .eq 23, 3) := by decide +kernel
theorem d_Model_filled_18 : decode b_Model_filled 18 = .ok (.aload_n 0, 1) := by decide +kernel
theorem d_Model_filled_19 : decode b_Model_filled 19 = .ok (.getfield 121, 3) := by decide +kernel
theorem d_Model_filled_22 : decode b_Model_filled 22 = .ok (.ifCond .eq 12, 3) := by decide +kernel
theorem d_Model_filled_25 : decode b_Model_filled 25 = .ok (.aload_n 0, 1) := by decide +kernel
theorem d_Model_filled_26 : decode b_Model_filled 26 = .ok (.getfield 22, 3) := by decide +kernel
theorem d_Model_filled_29 : decode b_Model_filled 29 = .ok (.iload_n 2, 1) := by decide +kernel
theorem d_Model_filled_30 : decode b_Model_filled 30 = .ok (.iaload, 1) := by decide +kernel
theorem d_Model_filled_31 : decode b_Model_filled 31 = .ok (.goto 13, 3) := by decide +kernel
theorem d_Model_filled_34 : decode b_Model_filled 34 = .ok (.iconst 0, 1) := by decide +kernel
theorem d_Model_filled_35 : decode b_Model_filled 35 = .ok (.goto 9, 3) := by decide +kernel
theorem d_Model_filled_38 : decode b_Model_filled 38 = .ok (.aload_n 0, 1) := by decide +kernel
theorem d_Model_filled_39 : decode b_Model_filled 39 = .ok (.getfield 13, 3) := by decide +kernel
theorem d_Model_filled_42 : decode b_Model_filled 42 = .ok (.iload_n 2, 1) := by decide +kernel
theorem d_Model_filled_43 : decode b_Model_filled 43 = .ok (.iaload, 1) := by decide +kernel
theorem d_Model_filled_44 : decode b_Model_filled 44 = .ok (.ireturn, 1) := by decide +kernel
theorem d_Model_above_0 : decode b_Model_above 0 = .ok (.iload_n 1, 1) := by decide +kernel
theorem d_Model_above_1 : decode b_Model_above 1 = .ok (.istore_n 2, 1) := by decide +kernel
theorem d_Model_above_2 : decode b_Model_above 2 = .ok (.iconst 0, 1) := by decide +kernel
theorem d_Model_above_3 : decode b_Model_above 3 = .ok (.istore_n 3, 1) := by decide +kernel
theorem d_Model_above_4 : decode b_Model_above 4 = .ok (.iload_n 3, 1) := by decide +kernel
theorem d_Model_above_5 : decode b_Model_above 5 = .ok (.aload_n 0, 1) := by decide +kernel
theorem d_Model_above_6 : decode b_Model_above 6 = .ok (.getfield 31, 3) := by decide +kernel
theorem d_Model_above_9 : decode b_Model_above 9 = .ok (.if_icmp .ge 132, 3) := by decide +kernel
theorem d_Model_above_12 : decode b_Model_above 12 = .ok (.aload_n 0, 1) := by decide +kernel
theorem d_Model_above_13 : decode b_Model_above 13 = .ok (.getfield 13, 3) := by decide +kernel
theorem d_Model_above_16 : decode b_Model_above 16 = .ok (.iload_n 3, 1) := by decide +kernel
theorem d_Model_above_17 : decode b_Model_above 17 = .ok (.iaload, 1) := by decide +kernel
theorem d_Model_above_18 : decode b_Model_above 18 = .ok (.iconst 1, 1) := by decide +kernel
theorem d_Model_above_19 : decode b_Model_above 19 = .ok (.if_icmp .ne 17, 3) := by decide +kernel
theorem d_Model_above_22 : decode b_Model_above 22 = .ok (.aload_n 0, 1) := by decide +kernel
theorem d_Model_above_23 : decode b_Model_above 23 = .ok (.getfield 16, 3) := by decide +kernel
theorem d_Model_above_26 : decode b_Model_above 26 = .ok (.iload_n 3, 1) := by decide +kernel
theorem d_Model_above_27 : decode b_Model_above 27 = .ok (.iaload, 1) := by decide +kernel
theorem d_Model_above_28 : decode b_Model_above 28 = .ok (.iload_n 1, 1) := by decide +kernel
theorem d_Model_above_29 : decode b_Model_above 29 = .ok (.if_icmp .le 7, 3) := by decide +kernel
theorem d_Model_above_32 : decode b_Model_above 32 = .ok (.iconst 1, 1) := by decide +kernel
theorem d_Model_above_33 : decode b_Model_above 33 = .ok (.goto 4, 3) := by decide +kernel
theorem d_Model_above_36 : decode b_Model_above 36 = .ok (.iconst 0, 1) := by decide +kernel
theorem d_Model_above_37 : decode b_Model_above 37 = .ok (.istore 4, 2) := by decide +kernel
theorem d_Model_above_39 : decode b_Model_above 39 = .ok (.iload 4, 2) := by decide +kernel
theorem d_Model_above_41 : decode b_Model_above 41 = .ok (.ifCond .eq 27, 3) := by decide +kernel
theorem d_Model_above_44 : decode b_Model_above 44 = .ok (.iload_n 2, 1) := by decide +kernel
theorem d_Model_above_45 : decode b_Model_above 45 = .ok (.iload_n 1, 1) := by decide +kernel
theorem d_Model_above_46 : decode b_Model_above 46 = .ok (.if_icmp .eq 13, 3) := by decide +kernel
theorem d_Model_above_49 : decode b_Model_above 49 = .ok (.aload_n 0, 1) := by decide +kernel
theorem d_Model_above_50 : decode b_Model_above 50 = .ok (.getfield 16, 3) := by decide +kernel
theorem d_Model_above_53 : decode b_Model_above 53 = .ok (.iload_n 3, 1) := by decide +kernel
theorem d_Model_above_54 : decode b_Model_above 54 = .ok (.iaload, 1) := by decide +kernel
theorem d_Model_above_55 : decode b_Model_above 55 = .ok (.iload_n 2, 1) := by decide +kernel
theorem d_Model_above_56 : decode b_Model_above 56 = .ok (.if_icmp .ge 12, 3) := by decide +kernel
theorem d_Model_above_59 : decode b_Model_above 59 = .ok (.aload_n 0, 1) := by decide +kernel
theorem d_Model_above_60 : decode b_Model_above 60 = .ok (.getfield 16, 3) := by decide +kernel
theorem d_Model_above_63 : decode b_Model_above 63 = .ok (.iload_n 3, 1) := by decide +kernel
theorem d_Model_above_64 : decode b_Model_above 64 = .ok (.iaload, 1) := by decide +kernel
theorem d_Model_above_65 : decode b_Model_above 65 = .ok (.goto 4, 3) := by decide +kernel
theorem d_Model_above_68 : decode b_Model_above 68 = .ok (.iload_n 2, 1) := by decide +kernel
theorem d_Model_above_69 : decode b_Model_above 69 = .ok (.istore_n 2, 1) := by decide +kernel
theorem d_Model_above_70 : decode b_Model_above 70 = .ok (.aload_n 0, 1) := by decide +kernel
theorem d_Model_above_71 : decode b_Model_above 71 = .ok (.getfield 121, 3) := by decide +kernel
theorem d_Model_above_74 : decode b_Model_above 74 = .ok (.ifCond .eq 27, 3) := by decide +kernel
theorem d_Model_above_77 : decode b_Model_above 77 = .ok (.aload_n 0, 1) := by decide +kernel
theorem d_Model_above_78 : decode b_Model_above 78 = .ok (.getfield 22, 3) := by decide +kernel
theorem d_Model_above_81 : decode b_Model_above 81 = .ok (.iload_n 3, 1) := by decide +kernel
theorem d_Model_above_82 : decode b_Model_above 82 = .ok (.iaload, 1) := by decide +kernel
theorem d_Model_above_83 : decode b_Model_above 83 = .ok (.iconst 1, 1) := by decide +kernel
theorem d_Model_above_84 : decode b_Model_above 84 = .ok (.if_icmp .ne 17, 3) := by decide +kernel
theorem d_Model_above_87 : decode b_Model_above 87 = .ok (.aload_n 0, 1) := by decide +kernel
theorem d_Model_above_88 : decode b_Model_above 88 = .ok (.getfield 25, 3) := by decide +kernel
theorem d_Model_above_91 : decode b_Model_above 91 = .ok (.iload_n 3, 1) := by decide +kernel
theorem d_Model_above_92 : decode b_Model_above 92 = .ok (.iaload, 1) := by decide +kernel
theorem d_Model_above_93 : decode b_Model_above 93 = .ok (.iload_n 1, 1) := by decide +kernel
theorem d_Model_above_94 : decode b_Model_above 94 = .ok (.if_icmp .le 7, 3) := by decide +kernel
theorem d_Model_above_97 : decode b_Model_above 97 = .ok (.iconst 1, 1) := by decide +kernel
theorem d_Model_above_98 : decode b_Model_above 98 = .ok (.goto 4, 3) := by decide +kernel
theorem d_Model_above_101 : decode b_Model_above 101 = .ok (.iconst 0, 1) := by decide +kernel
theorem d_Model_above_102 : decode b_Model_above 102 = .ok (.istore 5, 2) := by decide +kernel
theorem d_Model_above_104 : decode b_Model_above 104 = .ok (.iload 5, 2) := by decide +kernel
theorem d_Model_above_106 : decode b_Model_above 106 = .ok (.ifCond .eq 27, 3) := by decide +kernel
theorem d_Model_above_109 : decode b_Model_above 109 = .ok (.iload_n 2, 1) := by decide +kernel
theorem d_Model_above_110 : decode b_Model_above 110 = .ok (.iload_n 1, 1) := by decide +kernel
theorem d_Model_above_111 : decode b_Model_above 111 = .ok (.if_icmp .eq 13, 3) := by decide +kernel
theorem d_Model_above_114 : decode b_Model_above 114 = .ok (.aload_n 0, 1) := by decide +kernel
theorem d_Model_above_115 : decode b_Model_above 115 = .ok (.getfield 25, 3) := by decide +kernel
theorem d_Model_above_118 : decode b_Model_above 118 = .ok (.iload_n 3, 1) := by decide +kernel
theorem d_Model_above_119 : decode b_Model_above 119 = .ok (.iaload, 1) := by decide +kernel
theorem d_Model_above_120 : decode b_Model_above 120 = .ok (.iload_n 2, 1) := by decide +kernel
theorem d_Model_above_121 : decode b_Model_above 121 = .ok (.if_icmp .ge 12, 3) := by decide +kernel
theorem d_Model_above_124 : decode b_Model_above 124 = .ok (.aload_n 0, 1) := by decide +kernel
theorem d_Model_above_125 : decode b_Model_above 125 = .ok (.getfield 25, 3) := by decide +kernel
theorem d_Model_above_128 : decode b_Model_above 128 = .ok (.iload_n 3, 1) := by decide +kernel
theorem d_Model_above_129 : decode b_Model_above 129 = .ok (.iaload, 1) := by decide +kernel
theorem d_Model_above_130 : decode b_Model_above 130 = .ok (.goto 4, 3) := by decide +kernel
theorem d_Model_above_133 : decode b_Model_above 133 = .ok (.iload_n 2, 1) := by decide +kernel
theorem d_Model_above_134 : decode b_Model_above 134 = .ok (.istore_n 2, 1) := by decide +kernel
theorem d_Model_above_135 : decode b_Model_above 135 = .ok (.iinc 3 1, 3) := by decide +kernel
theorem d_Model_above_138 : decode b_Model_above 138 = .ok (.goto (-134), 3) := by decide +kernel
theorem d_Model_above_141 : decode b_Model_above 141 = .ok (.iload_n 2, 1) := by decide +kernel
theorem d_Model_above_142 : decode b_Model_above 142 = .ok (.ireturn, 1) := by decide +kernel
theorem d_Model_sum_0 : decode b_Model_sum 0 = .ok (.lconst 0, 1) := by decide +kernel
theorem d_Model_sum_1 : decode b_Model_sum 1 = .ok (.lstore_n 1, 1) := by decide +kernel
theorem d_Model_sum_2 : decode b_Model_sum 2 = .ok (.iconst 0, 1) := by decide +kernel
theorem d_Model_sum_3 : decode b_Model_sum 3 = .ok (.istore_n 3, 1) := by decide +kernel
theorem d_Model_sum_4 : decode b_Model_sum 4 = .ok (.iload_n 3, 1) := by decide +kernel
theorem d_Model_sum_5 : decode b_Model_sum 5 = .ok (.aload_n 0, 1) := by decide +kernel
theorem d_Model_sum_6 : decode b_Model_sum 6 = .ok (.getfield 31, 3) := by decide +kernel
theorem d_Model_sum_9 : decode b_Model_sum 9 = .ok (.if_icmp .ge 106, 3) := by decide +kernel
theorem d_Model_sum_12 : decode b_Model_sum 12 = .ok (.aload_n 0, 1) := by decide +kernel
theorem d_Model_sum_13 : decode b_Model_sum 13 = .ok (.getfield 13, 3) := by decide +kernel
theorem d_Model_sum_16 : decode b_Model_sum 16 = .ok (.iload_n 3, 1) := by decide +kernel
theorem d_Model_sum_17 : decode b_Model_sum 17 = .ok (.iaload, 1) := by decide +kernel
theorem d_Model_sum_18 : decode b_Model_sum 18 = .ok (.iconst 1, 1) := by decide +kernel
theorem d_Model_sum_19 : decode b_Model_sum 19 = .ok (.if_icmp .ne 38, 3) := by decide +kernel
theorem d_Model_sum_22 : decode b_Model_sum 22 = .ok (.lload_n 1, 1) := by decide +kernel
theorem d_Model_sum_23 : decode b_Model_sum 23 = .ok (.aload_n 0, 1) := by decide +kernel
theorem d_Model_sum_24 : decode b_Model_sum 24 = .ok (.aload_n 0, 1) := by decide +kernel
theorem d_Model_sum_25 : decode b_Model_sum 25 = .ok (.getfield 77, 3) := by decide +kernel
theorem d_Model_sum_28 : decode b_Model_sum 28 = .ok (.aload_n 0, 1) := by decide +kernel
theorem d_Model_sum_29 : decode b_Model_sum 29 = .ok (.getfield 81, 3) := by decide +kernel
theorem d_Model_sum_32 : decode b_Model_sum 32 = .ok (.aload_n 0, 1) := by decide +kernel
theorem d_Model_sum_33 : decode b_Model_sum 33 = .ok (.getfield 16, 3) := by decide +kernel
theorem d_Model_sum_36 : decode b_Model_sum 36 = .ok (.iload_n 3, 1) := by decide +kernel
theorem d_Model_sum_37 : decode b_Model_sum 37 = .ok (.iaload, 1) := by decide +kernel
theorem d_Model_sum_38 : decode b_Model_sum 38 = .ok (.invokevirtual 114, 3) := by decide +kernel
theorem d_Model_sum_41 : decode b_Model_sum 41 = .ok (.ldc2_w 168, 3) := by decide +kernel
theorem d_Model_sum_44 : decode b_Model_sum 44 = .ok (.aload_n 0, 1) := by decide +kernel
theorem d_Model_sum_45 : decode b_Model_sum 45 = .ok (.getfield 19, 3) := by decide +kernel
theorem d_Model_sum_48 : decode b_Model_sum 48 = .ok (.iload_n 3, 1) := by decide +kernel
theorem d_Model_sum_49 : decode b_Model_sum 49 = .ok (.iaload, 1) := by decide +kernel
theorem d_Model_sum_50 : decode b_Model_sum 50 = .ok (.i2l, 1) := by decide +kernel
theorem d_Model_sum_51 : decode b_Model_sum 51 = .ok (.lmul, 1) := by decide +kernel
theorem d_Model_sum_52 : decode b_Model_sum 52 = .ok (.lconst 1, 1) := by decide +kernel
theorem d_Model_sum_53 : decode b_Model_sum 53 = .ok (.ladd, 1) := by decide +kernel
theorem d_Model_sum_54 : decode b_Model_sum 54 = .ok (.lmul, 1) := by decide +kernel
theorem d_Model_sum_55 : decode b_Model_sum 55 = .ok (.ladd, 1) := by decide +kernel
theorem d_Model_sum_56 : decode b_Model_sum 56 = .ok (.lstore_n 1, 1) := by decide +kernel
theorem d_Model_sum_57 : decode b_Model_sum 57 = .ok (.aload_n 0, 1) := by decide +kernel
theorem d_Model_sum_58 : decode b_Model_sum 58 = .ok (.getfield 121, 3) := by decide +kernel
theorem d_Model_sum_61 : decode b_Model_sum 61 = .ok (.ifCond .eq 48, 3) := by decide +kernel
theorem d_Model_sum_64 : decode b_Model_sum 64 = .ok (.aload_n 0, 1) := by decide +kernel
theorem d_Model_sum_65 : decode b_Model_sum 65 = .ok (.getfield 22, 3) := by decide +kernel
theorem d_Model_sum_68 : decode b_Model_sum 68 = .ok (.iload_n 3, 1) := by decide +kernel
theorem d_Model_sum_69 : decode b_Model_sum 69 = .ok (.iaload, 1) := by decide +kernel
theorem d_Model_sum_70 : decode b_Model_sum 70 = .ok (.iconst 1, 1) := by decide +kernel
theorem d_Model_sum_71 : decode b_Model_sum 71 = .ok (.if_icmp .ne 38, 3) := by decide +kernel
theorem d_Model_sum_74 : decode b_Model_sum 74 = .ok (.lload_n 1, 1) := by decide +kernel
theorem d_Model_sum_75 : decode b_Model_sum 75 = .ok (.aload_n 0, 1) := by decide +kernel
theorem d_Model_sum_76 : decode b_Model_sum 76 = .ok (.aload_n 0, 1) := by decide +kernel
theorem d_Model_sum_77 : decode b_Model_sum 77 = .ok (.getfield 77, 3) := by decide +kernel
theorem d_Model_sum_80 : decode b_Model_sum 80 = .ok (.aload_n 0, 1) := by decide +kernel
theorem d_Model_sum_81 : decode b_Model_sum 81 = .ok (.getfield 81, 3) := by decide +kernel
theorem d_Model_sum_84 : decode b_Model_sum 84 = .ok (.aload_n 0, 1) := by decide +kernel
theorem d_Model_sum_85 : decode b_Model_sum 85 = .ok (.getfield 25, 3) := by decide +kernel
theorem d_Model_sum_88 : decode b_Model_sum 88 = .ok (.iload_n 3, 1) := by decide +kernel
theorem d_Model_sum_89 : decode b_Model_sum 89 = .ok (.iaload, 1) := by decide +kernel
theorem d_Model_sum_90 : decode b_Model_sum 90 = .ok (.invokevirtual 114, 3) := by decide +kernel
theorem d_Model_sum_93 : decode b_Model_sum 93 = .ok (.ldc2_w 168, 3) := by decide +kernel
theorem d_Model_sum_96 : decode b_Model_sum 96 = .ok (.aload_n 0, 1) := by decide +kernel
theorem d_Model_sum_97 : decode b_Model_sum 97 = .ok (.getfield 28, 3) := by decide +kernel
theorem d_Model_sum_100 : decode b_Model_sum 100 = .ok (.iload_n 3, 1) := by decide +kernel
theorem d_Model_sum_101 : decode b_Model_sum 101 = .ok (.iaload, 1) := by decide +kernel
theorem d_Model_sum_102 : decode b_Model_sum 102 = .ok (.i2l, 1) := by decide +kernel
theorem d_Model_sum_103 : decode b_Model_sum 103 = .ok (.lmul, 1) := by decide +kernel
theorem d_Model_sum_104 : decode b_Model_sum 104 = .ok (.lconst 1, 1) := by decide +kernel
theorem d_Model_sum_105 : decode b_Model_sum 105 = .ok (.ladd, 1) := by decide +kernel
theorem d_Model_sum_106 : decode b_Model_sum 106 = .ok (.lmul, 1) := by decide +kernel
theorem d_Model_sum_107 : decode b_Model_sum 107 = .ok (.ladd, 1) := by decide +kernel
theorem d_Model_sum_108 : decode b_Model_sum 108 = .ok (.lstore_n 1, 1) := by decide +kernel
theorem d_Model_sum_109 : decode b_Model_sum 109 = .ok (.iinc 3 1, 3) := by decide +kernel
theorem d_Model_sum_112 : decode b_Model_sum 112 = .ok (.goto (-108), 3) := by decide +kernel
theorem d_Model_sum_115 : decode b_Model_sum 115 = .ok (.lload_n 1, 1) := by decide +kernel
theorem d_Model_sum_116 : decode b_Model_sum 116 = .ok (.lreturn, 1) := by decide +kernel
theorem d_Model_rekeys_0 : decode b_Model_rekeys 0 = .ok (.aload_n 0, 1) := by decide +kernel
theorem d_Model_rekeys_1 : decode b_Model_rekeys 1 = .ok (.getfield 146, 3) := by decide +kernel
theorem d_Model_rekeys_4 : decode b_Model_rekeys 4 = .ok (.ireturn, 1) := by decide +kernel
