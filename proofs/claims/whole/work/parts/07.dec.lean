theorem dX11_isShaded_100 : decode cX11_isShaded 100 = .ok (.iload 10, 2) := by decide +kernel
theorem dX11_isShaded_102 : decode cX11_isShaded 102 = .ok (.iload 5, 2) := by decide +kernel
theorem dX11_isShaded_104 : decode cX11_isShaded 104 = .ok (.isub, 1) := by decide +kernel
theorem dX11_isShaded_105 : decode cX11_isShaded 105 = .ok (.imul, 1) := by decide +kernel
theorem dX11_isShaded_106 : decode cX11_isShaded 106 = .ok (.ifCond .gt 18, 3) := by decide +kernel
theorem dX11_isShaded_109 : decode cX11_isShaded 109 = .ok (.iload 11, 2) := by decide +kernel
theorem dX11_isShaded_111 : decode cX11_isShaded 111 = .ok (.iload 11, 2) := by decide +kernel
theorem dX11_isShaded_113 : decode cX11_isShaded 113 = .ok (.iload 6, 2) := by decide +kernel
theorem dX11_isShaded_115 : decode cX11_isShaded 115 = .ok (.isub, 1) := by decide +kernel
theorem dX11_isShaded_116 : decode cX11_isShaded 116 = .ok (.imul, 1) := by decide +kernel
theorem dX11_isShaded_117 : decode cX11_isShaded 117 = .ok (.ifCond .gt 7, 3) := by decide +kernel
theorem dX11_isShaded_120 : decode cX11_isShaded 120 = .ok (.iconst 1, 1) := by decide +kernel
theorem dX11_isShaded_121 : decode cX11_isShaded 121 = .ok (.goto 4, 3) := by decide +kernel
theorem dX11_isShaded_124 : decode cX11_isShaded 124 = .ok (.iconst 0, 1) := by decide +kernel
theorem dX11_isShaded_125 : decode cX11_isShaded 125 = .ok (.istore 12, 2) := by decide +kernel
theorem dX11_isShaded_127 : decode cX11_isShaded 127 = .ok (.iload 8, 2) := by decide +kernel
theorem dX11_isShaded_129 : decode cX11_isShaded 129 = .ok (.ifCond .ne 56, 3) := by decide +kernel
theorem dX11_isShaded_132 : decode cX11_isShaded 132 = .ok (.aload_n 0, 1) := by decide +kernel
theorem dX11_isShaded_133 : decode cX11_isShaded 133 = .ok (.getfield 7, 3) := by decide +kernel
theorem dX11_isShaded_136 : decode cX11_isShaded 136 = .ok (.iload 9, 2) := by decide +kernel
theorem dX11_isShaded_138 : decode cX11_isShaded 138 = .ok (.baload, 1) := by decide +kernel
theorem dX11_isShaded_139 : decode cX11_isShaded 139 = .ok (.ifCond .eq 50, 3) := by decide +kernel
theorem dX11_isShaded_142 : decode cX11_isShaded 142 = .ok (.iload 9, 2) := by decide +kernel
theorem dX11_isShaded_144 : decode cX11_isShaded 144 = .ok (.iload_n 2, 1) := by decide +kernel
theorem dX11_isShaded_145 : decode cX11_isShaded 145 = .ok (.if_icmp .eq 44, 3) := by decide +kernel
theorem dX11_isShaded_148 : decode cX11_isShaded 148 = .ok (.iload 9, 2) := by decide +kernel
theorem dX11_isShaded_150 : decode cX11_isShaded 150 = .ok (.aload_n 0, 1) := by decide +kernel
theorem dX11_isShaded_151 : decode cX11_isShaded 151 = .ok (.getfield 44, 3) := by decide +kernel
theorem dX11_isShaded_154 : decode cX11_isShaded 154 = .ok (.iload_n 1, 1) := by decide +kernel
theorem dX11_isShaded_155 : decode cX11_isShaded 155 = .ok (.iaload, 1) := by decide +kernel
theorem dX11_isShaded_156 : decode cX11_isShaded 156 = .ok (.if_icmp .eq 33, 3) := by decide +kernel
theorem dX11_isShaded_159 : decode cX11_isShaded 159 = .ok (.iload 12, 2) := by decide +kernel
theorem dX11_isShaded_161 : decode cX11_isShaded 161 = .ok (.ifCond .eq 28, 3) := by decide +kernel
theorem dX11_isShaded_164 : decode cX11_isShaded 164 = .ok (.iconst 2, 1) := by decide +kernel
theorem dX11_isShaded_165 : decode cX11_isShaded 165 = .ok (.iload 5, 2) := by decide +kernel
theorem dX11_isShaded_167 : decode cX11_isShaded 167 = .ok (.iload 11, 2) := by decide +kernel
theorem dX11_isShaded_169 : decode cX11_isShaded 169 = .ok (.imul, 1) := by decide +kernel
theorem dX11_isShaded_170 : decode cX11_isShaded 170 = .ok (.iload 6, 2) := by decide +kernel
theorem dX11_isShaded_172 : decode cX11_isShaded 172 = .ok (.iload 10, 2) := by decide +kernel
theorem dX11_isShaded_174 : decode cX11_isShaded 174 = .ok (.imul, 1) := by decide +kernel
theorem dX11_isShaded_175 : decode cX11_isShaded 175 = .ok (.isub, 1) := by decide +kernel
theorem dX11_isShaded_176 : decode cX11_isShaded 176 = .ok (.invokestatic 160, 3) := by decide +kernel
theorem dX11_isShaded_179 : decode cX11_isShaded 179 = .ok (.imul, 1) := by decide +kernel
theorem dX11_isShaded_180 : decode cX11_isShaded 180 = .ok (.iload 7, 2) := by decide +kernel
theorem dX11_isShaded_182 : decode cX11_isShaded 182 = .ok (.if_icmp .gt 7, 3) := by decide +kernel
theorem dX11_isShaded_185 : decode cX11_isShaded 185 = .ok (.iconst 1, 1) := by decide +kernel
theorem dX11_isShaded_186 : decode cX11_isShaded 186 = .ok (.goto 4, 3) := by decide +kernel
theorem dX11_isShaded_189 : decode cX11_isShaded 189 = .ok (.iconst 0, 1) := by decide +kernel
theorem dX11_isShaded_190 : decode cX11_isShaded 190 = .ok (.istore 8, 2) := by decide +kernel
theorem dX11_isShaded_192 : decode cX11_isShaded 192 = .ok (.iinc 9 1, 3) := by decide +kernel
theorem dX11_isShaded_195 : decode cX11_isShaded 195 = .ok (.goto (-123), 3) := by decide +kernel
theorem dX11_isShaded_198 : decode cX11_isShaded 198 = .ok (.iload 8, 2) := by decide +kernel
theorem dX11_isShaded_200 : decode cX11_isShaded 200 = .ok (.ireturn, 1) := by decide +kernel
theorem dX11_distance_0 : decode cX11_distance 0 = .ok (.iload_n 2, 1) := by decide +kernel
theorem dX11_distance_1 : decode cX11_distance 1 = .ok (.bipush 8, 2) := by decide +kernel
theorem dX11_distance_3 : decode cX11_distance 3 = .ok (.irem, 1) := by decide +kernel
theorem dX11_distance_4 : decode cX11_distance 4 = .ok (.aload_n 0, 1) := by decide +kernel
theorem dX11_distance_5 : decode cX11_distance 5 = .ok (.getfield 44, 3) := by decide +kernel
theorem dX11_distance_8 : decode cX11_distance 8 = .ok (.iload_n 1, 1) := by decide +kernel
theorem dX11_distance_9 : decode cX11_distance 9 = .ok (.iaload, 1) := by decide +kernel
theorem dX11_distance_10 : decode cX11_distance 10 = .ok (.bipush 8, 2) := by decide +kernel
theorem dX11_distance_12 : decode cX11_distance 12 = .ok (.irem, 1) := by decide +kernel
theorem dX11_distance_13 : decode cX11_distance 13 = .ok (.isub, 1) := by decide +kernel
theorem dX11_distance_14 : decode cX11_distance 14 = .ok (.istore_n 3, 1) := by decide +kernel
theorem dX11_distance_15 : decode cX11_distance 15 = .ok (.iload_n 2, 1) := by decide +kernel
theorem dX11_distance_16 : decode cX11_distance 16 = .ok (.bipush 8, 2) := by decide +kernel
theorem dX11_distance_18 : decode cX11_distance 18 = .ok (.idiv, 1) := by decide +kernel
theorem dX11_distance_19 : decode cX11_distance 19 = .ok (.aload_n 0, 1) := by decide +kernel
theorem dX11_distance_20 : decode cX11_distance 20 = .ok (.getfield 44, 3) := by decide +kernel
theorem dX11_distance_23 : decode cX11_distance 23 = .ok (.iload_n 1, 1) := by decide +kernel
theorem dX11_distance_24 : decode cX11_distance 24 = .ok (.iaload, 1) := by decide +kernel
theorem dX11_distance_25 : decode cX11_distance 25 = .ok (.bipush 8, 2) := by decide +kernel
theorem dX11_distance_27 : decode cX11_distance 27 = .ok (.idiv, 1) := by decide +kernel
theorem dX11_distance_28 : decode cX11_distance 28 = .ok (.isub, 1) := by decide +kernel
theorem dX11_distance_29 : decode cX11_distance 29 = .ok (.istore 4, 2) := by decide +kernel
theorem dX11_distance_31 : decode cX11_distance 31 = .ok (.iconst 1, 1) := by decide +kernel
theorem dX11_distance_32 : decode cX11_distance 32 = .ok (.iload_n 3, 1) := by decide +kernel
theorem dX11_distance_33 : decode cX11_distance 33 = .ok (.iload_n 3, 1) := by decide +kernel
theorem dX11_distance_34 : decode cX11_distance 34 = .ok (.imul, 1) := by decide +kernel
theorem dX11_distance_35 : decode cX11_distance 35 = .ok (.iadd, 1) := by decide +kernel
theorem dX11_distance_36 : decode cX11_distance 36 = .ok (.iload 4, 2) := by decide +kernel
theorem dX11_distance_38 : decode cX11_distance 38 = .ok (.iload 4, 2) := by decide +kernel
theorem dX11_distance_40 : decode cX11_distance 40 = .ok (.imul, 1) := by decide +kernel
theorem dX11_distance_41 : decode cX11_distance 41 = .ok (.iadd, 1) := by decide +kernel
theorem dX11_distance_42 : decode cX11_distance 42 = .ok (.ireturn, 1) := by decide +kernel
theorem dX11_given_0 : decode cX11_given 0 = .ok (.aload_n 0, 1) := by decide +kernel
theorem dX11_given_1 : decode cX11_given 1 = .ok (.iload_n 1, 1) := by decide +kernel
theorem dX11_given_2 : decode cX11_given 2 = .ok (.invokevirtual 140, 3) := by decide +kernel
theorem dX11_given_5 : decode cX11_given 5 = .ok (.ifCond .ne 5, 3) := by decide +kernel
theorem dX11_given_8 : decode cX11_given 8 = .ok (.iconst 0, 1) := by decide +kernel
theorem dX11_given_9 : decode cX11_given 9 = .ok (.ireturn, 1) := by decide +kernel
theorem dX11_given_10 : decode cX11_given 10 = .ok (.aload_n 0, 1) := by decide +kernel
theorem dX11_given_11 : decode cX11_given 11 = .ok (.iload_n 1, 1) := by decide +kernel
theorem dX11_given_12 : decode cX11_given 12 = .ok (.invokevirtual 163, 3) := by decide +kernel
theorem dX11_given_15 : decode cX11_given 15 = .ok (.bipush 10, 2) := by decide +kernel
theorem dX11_given_17 : decode cX11_given 17 = .ok (.aload_n 0, 1) := by decide +kernel
theorem dX11_given_18 : decode cX11_given 18 = .ok (.getfield 53, 3) := by decide +kernel
theorem dX11_given_21 : decode cX11_given 21 = .ok (.iload_n 1, 1) := by decide +kernel
theorem dX11_given_22 : decode cX11_given 22 = .ok (.iaload, 1) := by decide +kernel
theorem dX11_given_23 : decode cX11_given 23 = .ok (.isub, 1) := by decide +kernel
theorem dX11_given_24 : decode cX11_given 24 = .ok (.imul, 1) := by decide +kernel
theorem dX11_given_25 : decode cX11_given 25 = .ok (.bipush 10, 2) := by decide +kernel
theorem dX11_given_27 : decode cX11_given 27 = .ok (.idiv, 1) := by decide +kernel
theorem dX11_given_28 : decode cX11_given 28 = .ok (.istore_n 3, 1) := by decide +kernel
theorem dX11_given_29 : decode cX11_given 29 = .ok (.iload_n 3, 1) := by decide +kernel
theorem dX11_given_30 : decode cX11_given 30 = .ok (.iconst 1, 1) := by decide +kernel
theorem dX11_given_31 : decode cX11_given 31 = .ok (.aload_n 0, 1) := by decide +kernel
theorem dX11_given_32 : decode cX11_given 32 = .ok (.getfield 50, 3) := by decide +kernel
theorem dX11_given_35 : decode cX11_given 35 = .ok (.iload_n 1, 1) := by decide +kernel
theorem dX11_given_36 : decode cX11_given 36 = .ok (.iaload, 1) := by decide +kernel
theorem dX11_given_37 : decode cX11_given 37 = .ok (.ishl, 1) := by decide +kernel
theorem dX11_given_38 : decode cX11_given 38 = .ok (.imul, 1) := by decide +kernel
theorem dX11_given_39 : decode cX11_given 39 = .ok (.aload_n 0, 1) := by decide +kernel
theorem dX11_given_40 : decode cX11_given 40 = .ok (.iload_n 1, 1) := by decide +kernel
theorem dX11_given_41 : decode cX11_given 41 = .ok (.iload_n 2, 1) := by decide +kernel
theorem dX11_given_42 : decode cX11_given 42 = .ok (.invokevirtual 166, 3) := by decide +kernel
theorem dX11_given_45 : decode cX11_given 45 = .ok (.idiv, 1) := by decide +kernel
theorem dX11_given_46 : decode cX11_given 46 = .ok (.istore_n 3, 1) := by decide +kernel
theorem dX11_given_47 : decode cX11_given 47 = .ok (.aload_n 0, 1) := by decide +kernel
theorem dX11_given_48 : decode cX11_given 48 = .ok (.iload_n 1, 1) := by decide +kernel
theorem dX11_given_49 : decode cX11_given 49 = .ok (.iload_n 2, 1) := by decide +kernel
theorem dX11_given_50 : decode cX11_given 50 = .ok (.invokevirtual 170, 3) := by decide +kernel
theorem dX11_given_53 : decode cX11_given 53 = .ok (.ifCond .eq 9, 3) := by decide +kernel
theorem dX11_given_56 : decode cX11_given 56 = .ok (.iload_n 3, 1) := by decide +kernel
theorem dX11_given_57 : decode cX11_given 57 = .ok (.iconst 2, 1) := by decide +kernel
theorem dX11_given_58 : decode cX11_given 58 = .ok (.idiv, 1) := by decide +kernel
theorem dX11_given_59 : decode cX11_given 59 = .ok (.goto 4, 3) := by decide +kernel
theorem dX11_given_62 : decode cX11_given 62 = .ok (.iload_n 3, 1) := by decide +kernel
theorem dX11_given_63 : decode cX11_given 63 = .ok (.istore_n 3, 1) := by decide +kernel
theorem dX11_given_64 : decode cX11_given 64 = .ok (.iload_n 3, 1) := by decide +kernel
theorem dX11_given_65 : decode cX11_given 65 = .ok (.aload_n 0, 1) := by decide +kernel
theorem dX11_given_66 : decode cX11_given 66 = .ok (.getfield 134, 3) := by decide +kernel
theorem dX11_given_69 : decode cX11_given 69 = .ok (.iconst 2, 1) := by decide +kernel
theorem dX11_given_70 : decode cX11_given 70 = .ok (.if_icmp .ne 7, 3) := by decide +kernel
theorem dX11_given_73 : decode cX11_given 73 = .ok (.iconst 5, 1) := by decide +kernel
theorem dX11_given_74 : decode cX11_given 74 = .ok (.goto 9, 3) := by decide +kernel
theorem dX11_given_77 : decode cX11_given 77 = .ok (.iconst 1, 1) := by decide +kernel
theorem dX11_given_78 : decode cX11_given 78 = .ok (.aload_n 0, 1) := by decide +kernel
theorem dX11_given_79 : decode cX11_given 79 = .ok (.getfield 134, 3) := by decide +kernel
theorem dX11_given_82 : decode cX11_given 82 = .ok (.iadd, 1) := by decide +kernel
theorem dX11_given_83 : decode cX11_given 83 = .ok (.imul, 1) := by decide +kernel
theorem dX11_given_84 : decode cX11_given 84 = .ok (.ireturn, 1) := by decide +kernel
theorem dX11_direction_0 : decode cX11_direction 0 = .ok (.aload_n 0, 1) := by decide +kernel
theorem dX11_direction_1 : decode cX11_direction 1 = .ok (.getfield 44, 3) := by decide +kernel
theorem dX11_direction_4 : decode cX11_direction 4 = .ok (.iload_n 1, 1) := by decide +kernel
theorem dX11_direction_5 : decode cX11_direction 5 = .ok (.iaload, 1) := by decide +kernel
theorem dX11_direction_6 : decode cX11_direction 6 = .ok (.bipush 8, 2) := by decide +kernel
theorem dX11_direction_8 : decode cX11_direction 8 = .ok (.irem, 1) := by decide +kernel
theorem dX11_direction_9 : decode cX11_direction 9 = .ok (.iload_n 2, 1) := by decide +kernel
theorem dX11_direction_10 : decode cX11_direction 10 = .ok (.bipush 8, 2) := by decide +kernel
theorem dX11_direction_12 : decode cX11_direction 12 = .ok (.irem, 1) := by decide +kernel
theorem dX11_direction_13 : decode cX11_direction 13 = .ok (.isub, 1) := by decide +kernel
theorem dX11_direction_14 : decode cX11_direction 14 = .ok (.istore_n 3, 1) := by decide +kernel
theorem dX11_direction_15 : decode cX11_direction 15 = .ok (.aload_n 0, 1) := by decide +kernel
theorem dX11_direction_16 : decode cX11_direction 16 = .ok (.getfield 44, 3) := by decide +kernel
theorem dX11_direction_19 : decode cX11_direction 19 = .ok (.iload_n 1, 1) := by decide +kernel
theorem dX11_direction_20 : decode cX11_direction 20 = .ok (.iaload, 1) := by decide +kernel
theorem dX11_direction_21 : decode cX11_direction 21 = .ok (.bipush 8, 2) := by decide +kernel
theorem dX11_direction_23 : decode cX11_direction 23 = .ok (.idiv, 1) := by decide +kernel
theorem dX11_direction_24 : decode cX11_direction 24 = .ok (.iload_n 2, 1) := by decide +kernel
theorem dX11_direction_25 : decode cX11_direction 25 = .ok (.bipush 8, 2) := by decide +kernel
theorem dX11_direction_27 : decode cX11_direction 27 = .ok (.idiv, 1) := by decide +kernel
theorem dX11_direction_28 : decode cX11_direction 28 = .ok (.isub, 1) := by decide +kernel
theorem dX11_direction_29 : decode cX11_direction 29 = .ok (.istore 4, 2) := by decide +kernel
theorem dX11_direction_31 : decode cX11_direction 31 = .ok (.iload_n 3, 1) := by decide +kernel
theorem dX11_direction_32 : decode cX11_direction 32 = .ok (.ifCond .ne 10, 3) := by decide +kernel
theorem dX11_direction_35 : decode cX11_direction 35 = .ok (.iload 4, 2) := by decide +kernel
theorem dX11_direction_37 : decode cX11_direction 37 = .ok (.ifCond .ne 5, 3) := by decide +kernel
theorem dX11_direction_40 : decode cX11_direction 40 = .ok (.iconst 4, 1) := by decide +kernel
theorem dX11_direction_41 : decode cX11_direction 41 = .ok (.ireturn, 1) := by decide +kernel
theorem dX11_direction_42 : decode cX11_direction 42 = .ok (.iload 4, 2) := by decide +kernel
theorem dX11_direction_44 : decode cX11_direction 44 = .ok (.invokestatic 160, 3) := by decide +kernel
theorem dX11_direction_47 : decode cX11_direction 47 = .ok (.iload_n 3, 1) := by decide +kernel
theorem dX11_direction_48 : decode cX11_direction 48 = .ok (.invokestatic 160, 3) := by decide +kernel
theorem dX11_direction_51 : decode cX11_direction 51 = .ok (.if_icmp .gt 15, 3) := by decide +kernel
theorem dX11_direction_54 : decode cX11_direction 54 = .ok (.iload_n 3, 1) := by decide +kernel
theorem dX11_direction_55 : decode cX11_direction 55 = .ok (.ifCond .le 7, 3) := by decide +kernel
theorem dX11_direction_58 : decode cX11_direction 58 = .ok (.iconst 0, 1) := by decide +kernel
theorem dX11_direction_59 : decode cX11_direction 59 = .ok (.goto 17, 3) := by decide +kernel
theorem dX11_direction_62 : decode cX11_direction 62 = .ok (.iconst 1, 1) := by decide +kernel
theorem dX11_direction_63 : decode cX11_direction 63 = .ok (.goto 13, 3) := by decide +kernel
theorem dX11_direction_66 : decode cX11_direction 66 = .ok (.iload 4, 2) := by decide +kernel
theorem dX11_direction_68 : decode cX11_direction 68 = .ok (.ifCond .le 7, 3) := by decide +kernel
theorem dX11_direction_71 : decode cX11_direction 71 = .ok (.iconst 2, 1) := by decide +kernel
theorem dX11_direction_72 : decode cX11_direction 72 = .ok (.goto 4, 3) := by decide +kernel
theorem dX11_direction_75 : decode cX11_direction 75 = .ok (.iconst 3, 1) := by decide +kernel
theorem dX11_direction_76 : decode cX11_direction 76 = .ok (.ireturn, 1) := by decide +kernel
theorem dX11_glowOf_0 : decode cX11_glowOf 0 = .ok (.iconst 0, 1) := by decide +kernel
theorem dX11_glowOf_1 : decode cX11_glowOf 1 = .ok (.istore_n 2, 1) := by decide +kernel
theorem dX11_glowOf_2 : decode cX11_glowOf 2 = .ok (.iconst 0, 1) := by decide +kernel
theorem dX11_glowOf_3 : decode cX11_glowOf 3 = .ok (.istore_n 3, 1) := by decide +kernel
theorem dX11_glowOf_4 : decode cX11_glowOf 4 = .ok (.iload_n 3, 1) := by decide +kernel
theorem dX11_glowOf_5 : decode cX11_glowOf 5 = .ok (.aload_n 0, 1) := by decide +kernel
theorem dX11_glowOf_6 : decode cX11_glowOf 6 = .ok (.getfield 118, 3) := by decide +kernel
theorem dX11_glowOf_9 : decode cX11_glowOf 9 = .ok (.if_icmp .ge 18, 3) := by decide +kernel
theorem dX11_glowOf_12 : decode cX11_glowOf 12 = .ok (.iload_n 2, 1) := by decide +kernel
theorem dX11_glowOf_13 : decode cX11_glowOf 13 = .ok (.aload_n 0, 1) := by decide +kernel
theorem dX11_glowOf_14 : decode cX11_glowOf 14 = .ok (.iload_n 3, 1) := by decide +kernel
theorem dX11_glowOf_15 : decode cX11_glowOf 15 = .ok (.iload_n 1, 1) := by decide +kernel
theorem dX11_glowOf_16 : decode cX11_glowOf 16 = .ok (.invokevirtual 174, 3) := by decide +kernel
theorem dX11_glowOf_19 : decode cX11_glowOf 19 = .ok (.iadd, 1) := by decide +kernel
theorem dX11_glowOf_20 : decode cX11_glowOf 20 = .ok (.istore_n 2, 1) := by decide +kernel
theorem dX11_glowOf_21 : decode cX11_glowOf 21 = .ok (.iinc 3 1, 3) := by decide +kernel
theorem dX11_glowOf_24 : decode cX11_glowOf 24 = .ok (.goto (-20), 3) := by decide +kernel
theorem dX11_glowOf_27 : decode cX11_glowOf 27 = .ok (.iload_n 2, 1) := by decide +kernel
theorem dX11_glowOf_28 : decode cX11_glowOf 28 = .ok (.ireturn, 1) := by decide +kernel
theorem dX11_groundOf_0 : decode cX11_groundOf 0 = .ok (.iconst 0, 1) := by decide +kernel
theorem dX11_groundOf_1 : decode cX11_groundOf 1 = .ok (.istore_n 2, 1) := by decide +kernel
theorem dX11_groundOf_2 : decode cX11_groundOf 2 = .ok (.iconst 0, 1) := by decide +kernel
theorem dX11_groundOf_3 : decode cX11_groundOf 3 = .ok (.istore_n 3, 1) := by decide +kernel
theorem dX11_groundOf_4 : decode cX11_groundOf 4 = .ok (.iload_n 3, 1) := by decide +kernel
theorem dX11_groundOf_5 : decode cX11_groundOf 5 = .ok (.aload_n 0, 1) := by decide +kernel
theorem dX11_groundOf_6 : decode cX11_groundOf 6 = .ok (.getfield 118, 3) := by decide +kernel
theorem dX11_groundOf_9 : decode cX11_groundOf 9 = .ok (.if_icmp .ge 36, 3) := by decide +kernel
theorem dX11_groundOf_12 : decode cX11_groundOf 12 = .ok (.iload_n 2, 1) := by decide +kernel
theorem dX11_groundOf_13 : decode cX11_groundOf 13 = .ok (.aload_n 0, 1) := by decide +kernel
theorem dX11_groundOf_14 : decode cX11_groundOf 14 = .ok (.iload_n 3, 1) := by decide +kernel
theorem dX11_groundOf_15 : decode cX11_groundOf 15 = .ok (.invokevirtual 140, 3) := by decide +kernel
theorem dX11_groundOf_18 : decode cX11_groundOf 18 = .ok (.ifCond .eq 18, 3) := by decide +kernel
theorem dX11_groundOf_21 : decode cX11_groundOf 21 = .ok (.aload_n 0, 1) := by decide +kernel
theorem dX11_groundOf_22 : decode cX11_groundOf 22 = .ok (.iload_n 3, 1) := by decide +kernel
theorem dX11_groundOf_23 : decode cX11_groundOf 23 = .ok (.invokevirtual 163, 3) := by decide +kernel
theorem dX11_groundOf_26 : decode cX11_groundOf 26 = .ok (.aload_n 0, 1) := by decide +kernel
theorem dX11_groundOf_27 : decode cX11_groundOf 27 = .ok (.iload_n 3, 1) := by decide +kernel
theorem dX11_groundOf_28 : decode cX11_groundOf 28 = .ok (.iload_n 1, 1) := by decide +kernel
theorem dX11_groundOf_29 : decode cX11_groundOf 29 = .ok (.invokevirtual 166, 3) := by decide +kernel
theorem dX11_groundOf_32 : decode cX11_groundOf 32 = .ok (.idiv, 1) := by decide +kernel
theorem dX11_groundOf_33 : decode cX11_groundOf 33 = .ok (.goto 4, 3) := by decide +kernel
theorem dX11_groundOf_36 : decode cX11_groundOf 36 = .ok (.iconst 0, 1) := by decide +kernel
theorem dX11_groundOf_37 : decode cX11_groundOf 37 = .ok (.iadd, 1) := by decide +kernel
theorem dX11_groundOf_38 : decode cX11_groundOf 38 = .ok (.istore_n 2, 1) := by decide +kernel
theorem dX11_groundOf_39 : decode cX11_groundOf 39 = .ok (.iinc 3 1, 3) := by decide +kernel
theorem dX11_groundOf_42 : decode cX11_groundOf 42 = .ok (.goto (-38), 3) := by decide +kernel
theorem dX11_groundOf_45 : decode cX11_groundOf 45 = .ok (.iload_n 2, 1) := by decide +kernel
theorem dX11_groundOf_46 : decode cX11_groundOf 46 = .ok (.ireturn, 1) := by decide +kernel
theorem dX11_meter_0 : decode cX11_meter 0 = .ok (.iload_n 2, 1) := by decide +kernel
theorem dX11_meter_1 : decode cX11_meter 1 = .ok (.bipush (-50), 2) := by decide +kernel
theorem dX11_meter_3 : decode cX11_meter 3 = .ok (.bipush 50, 2) := by decide +kernel
theorem dX11_meter_5 : decode cX11_meter 5 = .ok (.invokestatic 111, 3) := by decide +kernel
theorem dX11_meter_8 : decode cX11_meter 8 = .ok (.ifCond .eq 17, 3) := by decide +kernel
theorem dX11_meter_11 : decode cX11_meter 11 = .ok (.iload_n 3, 1) := by decide +kernel
theorem dX11_meter_12 : decode cX11_meter 12 = .ok (.bipush (-3), 2) := by decide +kernel
theorem dX11_meter_14 : decode cX11_meter 14 = .ok (.iconst 3, 1) := by decide +kernel
theorem dX11_meter_15 : decode cX11_meter 15 = .ok (.invokestatic 111, 3) := by decide +kernel
theorem dX11_meter_18 : decode cX11_meter 18 = .ok (.ifCond .eq 7, 3) := by decide +kernel
theorem dX11_meter_21 : decode cX11_meter 21 = .ok (.iconst 1, 1) := by decide +kernel
theorem dX11_meter_22 : decode cX11_meter 22 = .ok (.goto 4, 3) := by decide +kernel
theorem dX11_meter_25 : decode cX11_meter 25 = .ok (.iconst 0, 1) := by decide +kernel
theorem dX11_meter_26 : decode cX11_meter 26 = .ok (.istore 4, 2) := by decide +kernel
theorem dX11_meter_28 : decode cX11_meter 28 = .ok (.aload_n 0, 1) := by decide +kernel
theorem dX11_meter_29 : decode cX11_meter 29 = .ok (.iload_n 1, 1) := by decide +kernel
theorem dX11_meter_30 : decode cX11_meter 30 = .ok (.invokestatic 124, 3) := by decide +kernel
theorem dX11_meter_33 : decode cX11_meter 33 = .ok (.ifCond .ne 7, 3) := by decide +kernel
theorem dX11_meter_36 : decode cX11_meter 36 = .ok (.iconst 1, 1) := by decide +kernel
theorem dX11_meter_37 : decode cX11_meter 37 = .ok (.goto 26, 3) := by decide +kernel
theorem dX11_meter_40 : decode cX11_meter 40 = .ok (.iload 4, 2) := by decide +kernel
theorem dX11_meter_42 : decode cX11_meter 42 = .ok (.ifCond .ne 7, 3) := by decide +kernel
theorem dX11_meter_45 : decode cX11_meter 45 = .ok (.iconst 2, 1) := by decide +kernel
theorem dX11_meter_46 : decode cX11_meter 46 = .ok (.goto 17, 3) := by decide +kernel
theorem dX11_meter_49 : decode cX11_meter 49 = .ok (.aload_n 0, 1) := by decide +kernel
theorem dX11_meter_50 : decode cX11_meter 50 = .ok (.getfield 121, 3) := by decide +kernel
theorem dX11_meter_53 : decode cX11_meter 53 = .ok (.bipush 8, 2) := by decide +kernel
theorem dX11_meter_55 : decode cX11_meter 55 = .ok (.if_icmp .ne 7, 3) := by decide +kernel
theorem dX11_meter_58 : decode cX11_meter 58 = .ok (.iconst 3, 1) := by decide +kernel
theorem dX11_meter_59 : decode cX11_meter 59 = .ok (.goto 4, 3) := by decide +kernel
theorem dX11_meter_62 : decode cX11_meter 62 = .ok (.iconst 0, 1) := by decide +kernel
theorem dX11_meter_63 : decode cX11_meter 63 = .ok (.invokevirtual 128, 3) := by decide +kernel
theorem dX11_meter_66 : decode cX11_meter 66 = .ok (.ifCond .eq 5, 3) := by decide +kernel
theorem dX11_meter_69 : decode cX11_meter 69 = .ok (.iconst 0, 1) := by decide +kernel
theorem dX11_meter_70 : decode cX11_meter 70 = .ok (.ireturn, 1) := by decide +kernel
theorem dX11_meter_71 : decode cX11_meter 71 = .ok (.aload_n 0, 1) := by decide +kernel
theorem dX11_meter_72 : decode cX11_meter 72 = .ok (.getfield 77, 3) := by decide +kernel
theorem dX11_meter_75 : decode cX11_meter 75 = .ok (.aload_n 0, 1) := by decide +kernel
theorem dX11_meter_76 : decode cX11_meter 76 = .ok (.getfield 121, 3) := by decide +kernel
theorem dX11_meter_79 : decode cX11_meter 79 = .ok (.iload_n 1, 1) := by decide +kernel
theorem dX11_meter_80 : decode cX11_meter 80 = .ok (.iastore, 1) := by decide +kernel
theorem dX11_meter_81 : decode cX11_meter 81 = .ok (.aload_n 0, 1) := by decide +kernel
theorem dX11_meter_82 : decode cX11_meter 82 = .ok (.getfield 80, 3) := by decide +kernel
theorem dX11_meter_85 : decode cX11_meter 85 = .ok (.aload_n 0, 1) := by decide +kernel
theorem dX11_meter_86 : decode cX11_meter 86 = .ok (.getfield 121, 3) := by decide +kernel
theorem dX11_meter_89 : decode cX11_meter 89 = .ok (.iload_n 2, 1) := by decide +kernel
theorem dX11_meter_90 : decode cX11_meter 90 = .ok (.iastore, 1) := by decide +kernel
theorem dX11_meter_91 : decode cX11_meter 91 = .ok (.aload_n 0, 1) := by decide +kernel
theorem dX11_meter_92 : decode cX11_meter 92 = .ok (.getfield 83, 3) := by decide +kernel
theorem dX11_meter_95 : decode cX11_meter 95 = .ok (.aload_n 0, 1) := by decide +kernel
theorem dX11_meter_96 : decode cX11_meter 96 = .ok (.getfield 121, 3) := by decide +kernel
theorem dX11_meter_99 : decode cX11_meter 99 = .ok (.iload_n 3, 1) := by decide +kernel
theorem dX11_meter_100 : decode cX11_meter 100 = .ok (.iastore, 1) := by decide +kernel
theorem dX11_meter_101 : decode cX11_meter 101 = .ok (.aload_n 0, 1) := by decide +kernel
theorem dX11_meter_102 : decode cX11_meter 102 = .ok (.dup, 1) := by decide +kernel
theorem dX11_meter_103 : decode cX11_meter 103 = .ok (.getfield 121, 3) := by decide +kernel
theorem dX11_meter_106 : decode cX11_meter 106 = .ok (.iconst 1, 1) := by decide +kernel
theorem dX11_meter_107 : decode cX11_meter 107 = .ok (.iadd, 1) := by decide +kernel
theorem dX11_meter_108 : decode cX11_meter 108 = .ok (.putfield 121, 3) := by decide +kernel
theorem dX11_meter_111 : decode cX11_meter 111 = .ok (.aload_n 0, 1) := by decide +kernel
theorem dX11_meter_112 : decode cX11_meter 112 = .ok (.getfield 121, 3) := by decide +kernel
theorem dX11_meter_115 : decode cX11_meter 115 = .ok (.iconst 1, 1) := by decide +kernel
theorem dX11_meter_116 : decode cX11_meter 116 = .ok (.isub, 1) := by decide +kernel
theorem dX11_meter_117 : decode cX11_meter 117 = .ok (.ireturn, 1) := by decide +kernel
theorem dX11_moon_0 : decode cX11_moon 0 = .ok (.iload_n 0, 1) := by decide +kernel
theorem dX11_moon_1 : decode cX11_moon 1 = .ok (.bipush 24, 2) := by decide +kernel
theorem dX11_moon_3 : decode cX11_moon 3 = .ok (.irem, 1) := by decide +kernel
theorem dX11_moon_4 : decode cX11_moon 4 = .ok (.istore_n 1, 1) := by decide +kernel
theorem dX11_moon_5 : decode cX11_moon 5 = .ok (.iload_n 1, 1) := by decide +kernel
theorem dX11_moon_6 : decode cX11_moon 6 = .ok (.bipush 6, 2) := by decide +kernel
theorem dX11_moon_8 : decode cX11_moon 8 = .ok (.bipush 17, 2) := by decide +kernel
theorem dX11_moon_10 : decode cX11_moon 10 = .ok (.invokestatic 111, 3) := by decide +kernel
theorem dX11_moon_13 : decode cX11_moon 13 = .ok (.ifCond .eq 7, 3) := by decide +kernel
theorem dX11_moon_16 : decode cX11_moon 16 = .ok (.iconst 0, 1) := by decide +kernel
theorem dX11_moon_17 : decode cX11_moon 17 = .ok (.goto 21, 3) := by decide +kernel
theorem dX11_moon_20 : decode cX11_moon 20 = .ok (.iconst 4, 1) := by decide +kernel
theorem dX11_moon_21 : decode cX11_moon 21 = .ok (.bipush 15, 2) := by decide +kernel
theorem dX11_moon_23 : decode cX11_moon 23 = .ok (.bipush 15, 2) := by decide +kernel
theorem dX11_moon_25 : decode cX11_moon 25 = .ok (.iload_n 0, 1) := by decide +kernel
theorem dX11_moon_26 : decode cX11_moon 26 = .ok (.bipush 24, 2) := by decide +kernel
theorem dX11_moon_28 : decode cX11_moon 28 = .ok (.idiv, 1) := by decide +kernel
theorem dX11_moon_29 : decode cX11_moon 29 = .ok (.bipush 30, 2) := by decide +kernel
theorem dX11_moon_31 : decode cX11_moon 31 = .ok (.irem, 1) := by decide +kernel
theorem dX11_moon_32 : decode cX11_moon 32 = .ok (.isub, 1) := by decide +kernel
theorem dX11_moon_33 : decode cX11_moon 33 = .ok (.invokestatic 160, 3) := by decide +kernel
theorem dX11_moon_36 : decode cX11_moon 36 = .ok (.isub, 1) := by decide +kernel
theorem dX11_moon_37 : decode cX11_moon 37 = .ok (.imul, 1) := by decide +kernel
theorem dX11_moon_38 : decode cX11_moon 38 = .ok (.ireturn, 1) := by decide +kernel
theorem dX11_read_0 : decode cX11_read 0 = .ok (.aload_n 0, 1) := by decide +kernel
theorem dX11_read_1 : decode cX11_read 1 = .ok (.aload_n 0, 1) := by decide +kernel
theorem dX11_read_2 : decode cX11_read 2 = .ok (.iload_n 1, 1) := by decide +kernel
theorem dX11_read_3 : decode cX11_read 3 = .ok (.invokevirtual 177, 3) := by decide +kernel
theorem dX11_read_6 : decode cX11_read 6 = .ok (.ifCond .eq 7, 3) := by decide +kernel
theorem dX11_read_9 : decode cX11_read 9 = .ok (.iconst 0, 1) := by decide +kernel
theorem dX11_read_10 : decode cX11_read 10 = .ok (.goto 4, 3) := by decide +kernel
theorem dX11_read_13 : decode cX11_read 13 = .ok (.iconst 1, 1) := by decide +kernel
theorem dX11_read_14 : decode cX11_read 14 = .ok (.invokevirtual 128, 3) := by decide +kernel
theorem dX11_read_17 : decode cX11_read 17 = .ok (.ifCond .eq 5, 3) := by decide +kernel
theorem dX11_read_20 : decode cX11_read 20 = .ok (.iconst 0, 1) := by decide +kernel
theorem dX11_read_21 : decode cX11_read 21 = .ok (.ireturn, 1) := by decide +kernel
theorem dX11_read_22 : decode cX11_read 22 = .ok (.bipush 10, 2) := by decide +kernel
theorem dX11_read_24 : decode cX11_read 24 = .ok (.iload_n 1, 1) := by decide +kernel
theorem dX11_read_25 : decode cX11_read 25 = .ok (.imul, 1) := by decide +kernel
theorem dX11_read_26 : decode cX11_read 26 = .ok (.istore_n 2, 1) := by decide +kernel
theorem dX11_read_27 : decode cX11_read 27 = .ok (.aload_n 0, 1) := by decide +kernel
theorem dX11_read_28 : decode cX11_read 28 = .ok (.getfield 89, 3) := by decide +kernel
theorem dX11_read_31 : decode cX11_read 31 = .ok (.iload_n 1, 1) := by decide +kernel
theorem dX11_read_32 : decode cX11_read 32 = .ok (.iaload, 1) := by decide +kernel
theorem dX11_read_33 : decode cX11_read 33 = .ok (.bipush 10, 2) := by decide +kernel
theorem dX11_read_35 : decode cX11_read 35 = .ok (.if_icmp .ne 59, 3) := by decide +kernel
theorem dX11_read_38 : decode cX11_read 38 = .ok (.iload_n 2, 1) := by decide +kernel
theorem dX11_read_39 : decode cX11_read 39 = .ok (.istore_n 3, 1) := by decide +kernel
theorem dX11_read_40 : decode cX11_read 40 = .ok (.iload_n 3, 1) := by decide +kernel
theorem dX11_read_41 : decode cX11_read 41 = .ok (.iload_n 2, 1) := by decide +kernel
theorem dX11_read_42 : decode cX11_read 42 = .ok (.bipush 10, 2) := by decide +kernel
theorem dX11_read_44 : decode cX11_read 44 = .ok (.iadd, 1) := by decide +kernel
theorem dX11_read_45 : decode cX11_read 45 = .ok (.iconst 1, 1) := by decide +kernel
theorem dX11_read_46 : decode cX11_read 46 = .ok (.isub, 1) := by decide +kernel
theorem dX11_read_47 : decode cX11_read 47 = .ok (.if_icmp .ge 37, 3) := by decide +kernel
theorem dX11_read_50 : decode cX11_read 50 = .ok (.aload_n 0, 1) := by decide +kernel
theorem dX11_read_51 : decode cX11_read 51 = .ok (.getfield 92, 3) := by decide +kernel
theorem dX11_read_54 : decode cX11_read 54 = .ok (.iload_n 3, 1) := by decide +kernel
theorem dX11_read_55 : decode cX11_read 55 = .ok (.aload_n 0, 1) := by decide +kernel
theorem dX11_read_56 : decode cX11_read 56 = .ok (.getfield 92, 3) := by decide +kernel
theorem dX11_read_59 : decode cX11_read 59 = .ok (.iload_n 3, 1) := by decide +kernel
theorem dX11_read_60 : decode cX11_read 60 = .ok (.iconst 1, 1) := by decide +kernel
theorem dX11_read_61 : decode cX11_read 61 = .ok (.iadd, 1) := by decide +kernel
theorem dX11_read_62 : decode cX11_read 62 = .ok (.iaload, 1) := by decide +kernel
theorem dX11_read_63 : decode cX11_read 63 = .ok (.iastore, 1) := by decide +kernel
theorem dX11_read_64 : decode cX11_read 64 = .ok (.aload_n 0, 1) := by decide +kernel
theorem dX11_read_65 : decode cX11_read 65 = .ok (.getfield 95, 3) := by decide +kernel
theorem dX11_read_68 : decode cX11_read 68 = .ok (.iload_n 3, 1) := by decide +kernel
theorem dX11_read_69 : decode cX11_read 69 = .ok (.aload_n 0, 1) := by decide +kernel
theorem dX11_read_70 : decode cX11_read 70 = .ok (.getfield 95, 3) := by decide +kernel
theorem dX11_read_73 : decode cX11_read 73 = .ok (.iload_n 3, 1) := by decide +kernel
theorem dX11_read_74 : decode cX11_read 74 = .ok (.iconst 1, 1) := by decide +kernel
theorem dX11_read_75 : decode cX11_read 75 = .ok (.iadd, 1) := by decide +kernel
theorem dX11_read_76 : decode cX11_read 76 = .ok (.iaload, 1) := by decide +kernel
theorem dX11_read_77 : decode cX11_read 77 = .ok (.iastore, 1) := by decide +kernel
theorem dX11_read_78 : decode cX11_read 78 = .ok (.iinc 3 1, 3) := by decide +kernel
theorem dX11_read_81 : decode cX11_read 81 = .ok (.goto (-41), 3) := by decide +kernel
theorem dX11_read_84 : decode cX11_read 84 = .ok (.aload_n 0, 1) := by decide +kernel
theorem dX11_read_85 : decode cX11_read 85 = .ok (.getfield 89, 3) := by decide +kernel
theorem dX11_read_88 : decode cX11_read 88 = .ok (.iload_n 1, 1) := by decide +kernel
theorem dX11_read_89 : decode cX11_read 89 = .ok (.dup2, 1) := by decide +kernel
theorem dX11_read_90 : decode cX11_read 90 = .ok (.iaload, 1) := by decide +kernel
theorem dX11_read_91 : decode cX11_read 91 = .ok (.iconst 1, 1) := by decide +kernel
theorem dX11_read_92 : decode cX11_read 92 = .ok (.isub, 1) := by decide +kernel
theorem dX11_read_93 : decode cX11_read 93 = .ok (.iastore, 1) := by decide +kernel
theorem dX11_read_94 : decode cX11_read 94 = .ok (.iload_n 2, 1) := by decide +kernel
theorem dX11_read_95 : decode cX11_read 95 = .ok (.aload_n 0, 1) := by decide +kernel
theorem dX11_read_96 : decode cX11_read 96 = .ok (.getfield 89, 3) := by decide +kernel
theorem dX11_read_99 : decode cX11_read 99 = .ok (.iload_n 1, 1) := by decide +kernel
theorem dX11_read_100 : decode cX11_read 100 = .ok (.iaload, 1) := by decide +kernel
theorem dX11_read_101 : decode cX11_read 101 = .ok (.iadd, 1) := by decide +kernel
theorem dX11_read_102 : decode cX11_read 102 = .ok (.istore_n 3, 1) := by decide +kernel
theorem dX11_read_103 : decode cX11_read 103 = .ok (.aload_n 0, 1) := by decide +kernel
theorem dX11_read_104 : decode cX11_read 104 = .ok (.getfield 92, 3) := by decide +kernel
theorem dX11_read_107 : decode cX11_read 107 = .ok (.iload_n 3, 1) := by decide +kernel
theorem dX11_read_108 : decode cX11_read 108 = .ok (.aload_n 0, 1) := by decide +kernel
theorem dX11_read_109 : decode cX11_read 109 = .ok (.getfield 137, 3) := by decide +kernel
theorem dX11_read_112 : decode cX11_read 112 = .ok (.iastore, 1) := by decide +kernel
theorem dX11_read_113 : decode cX11_read 113 = .ok (.aload_n 0, 1) := by decide +kernel
theorem dX11_read_114 : decode cX11_read 114 = .ok (.getfield 95, 3) := by decide +kernel
theorem dX11_read_117 : decode cX11_read 117 = .ok (.iload_n 3, 1) := by decide +kernel
theorem dX11_read_118 : decode cX11_read 118 = .ok (.aload_n 0, 1) := by decide +kernel
theorem dX11_read_119 : decode cX11_read 119 = .ok (.aload_n 0, 1) := by decide +kernel
theorem dX11_read_120 : decode cX11_read 120 = .ok (.getfield 77, 3) := by decide +kernel
theorem dX11_read_123 : decode cX11_read 123 = .ok (.iload_n 1, 1) := by decide +kernel
theorem dX11_read_124 : decode cX11_read 124 = .ok (.iaload, 1) := by decide +kernel
theorem dX11_read_125 : decode cX11_read 125 = .ok (.invokevirtual 180, 3) := by decide +kernel
theorem dX11_read_128 : decode cX11_read 128 = .ok (.aload_n 0, 1) := by decide +kernel
theorem dX11_read_129 : decode cX11_read 129 = .ok (.getfield 137, 3) := by decide +kernel
theorem dX11_read_132 : decode cX11_read 132 = .ok (.invokestatic 183, 3) := by decide +kernel
theorem dX11_read_135 : decode cX11_read 135 = .ok (.iadd, 1) := by decide +kernel
theorem dX11_read_136 : decode cX11_read 136 = .ok (.bipush 20, 2) := by decide +kernel
theorem dX11_read_138 : decode cX11_read 138 = .ok (.iadd, 1) := by decide +kernel
theorem dX11_read_139 : decode cX11_read 139 = .ok (.aload_n 0, 1) := by decide +kernel
theorem dX11_read_140 : decode cX11_read 140 = .ok (.getfield 80, 3) := by decide +kernel
theorem dX11_read_143 : decode cX11_read 143 = .ok (.iload_n 1, 1) := by decide +kernel
theorem dX11_read_144 : decode cX11_read 144 = .ok (.iaload, 1) := by decide +kernel
theorem dX11_read_145 : decode cX11_read 145 = .ok (.iadd, 1) := by decide +kernel
theorem dX11_read_146 : decode cX11_read 146 = .ok (.aload_n 0, 1) := by decide +kernel
theorem dX11_read_147 : decode cX11_read 147 = .ok (.getfield 83, 3) := by decide +kernel
theorem dX11_read_150 : decode cX11_read 150 = .ok (.iload_n 1, 1) := by decide +kernel
theorem dX11_read_151 : decode cX11_read 151 = .ok (.iaload, 1) := by decide +kernel
theorem dX11_read_152 : decode cX11_read 152 = .ok (.aload_n 0, 1) := by decide +kernel
theorem dX11_read_153 : decode cX11_read 153 = .ok (.getfield 137, 3) := by decide +kernel
theorem dX11_read_156 : decode cX11_read 156 = .ok (.bipush 24, 2) := by decide +kernel
theorem dX11_read_158 : decode cX11_read 158 = .ok (.idiv, 1) := by decide +kernel
theorem dX11_read_159 : decode cX11_read 159 = .ok (.imul, 1) := by decide +kernel
theorem dX11_read_160 : decode cX11_read 160 = .ok (.iadd, 1) := by decide +kernel
theorem dX11_read_161 : decode cX11_read 161 = .ok (.iastore, 1) := by decide +kernel
theorem dX11_read_162 : decode cX11_read 162 = .ok (.aload_n 0, 1) := by decide +kernel
theorem dX11_read_163 : decode cX11_read 163 = .ok (.getfield 89, 3) := by decide +kernel
theorem dX11_read_166 : decode cX11_read 166 = .ok (.iload_n 1, 1) := by decide +kernel
theorem dX11_read_167 : decode cX11_read 167 = .ok (.dup2, 1) := by decide +kernel
theorem dX11_read_168 : decode cX11_read 168 = .ok (.iaload, 1) := by decide +kernel
theorem dX11_read_169 : decode cX11_read 169 = .ok (.iconst 1, 1) := by decide +kernel
theorem dX11_read_170 : decode cX11_read 170 = .ok (.iadd, 1) := by decide +kernel
theorem dX11_read_171 : decode cX11_read 171 = .ok (.iastore, 1) := by decide +kernel
theorem dX11_read_172 : decode cX11_read 172 = .ok (.aload_n 0, 1) := by decide +kernel
theorem dX11_read_173 : decode cX11_read 173 = .ok (.getfield 95, 3) := by decide +kernel
theorem dX11_read_176 : decode cX11_read 176 = .ok (.iload_n 3, 1) := by decide +kernel
theorem dX11_read_177 : decode cX11_read 177 = .ok (.iaload, 1) := by decide +kernel
theorem dX11_read_178 : decode cX11_read 178 = .ok (.ireturn, 1) := by decide +kernel
theorem dX11_tell_0 : decode cX11_tell 0 = .ok (.aload_n 0, 1) := by decide +kernel
theorem dX11_tell_1 : decode cX11_tell 1 = .ok (.aload_n 0, 1) := by decide +kernel
theorem dX11_tell_2 : decode cX11_tell 2 = .ok (.iload_n 1, 1) := by decide +kernel
theorem dX11_tell_3 : decode cX11_tell 3 = .ok (.invokevirtual 177, 3) := by decide +kernel
theorem dX11_tell_6 : decode cX11_tell 6 = .ok (.ifCond .ne 7, 3) := by decide +kernel
theorem dX11_tell_9 : decode cX11_tell 9 = .ok (.iconst 1, 1) := by decide +kernel
theorem dX11_tell_10 : decode cX11_tell 10 = .ok (.goto 21, 3) := by decide +kernel
theorem dX11_tell_13 : decode cX11_tell 13 = .ok (.iload_n 2, 1) := by decide +kernel
theorem dX11_tell_14 : decode cX11_tell 14 = .ok (.sipush (-5000), 3) := by decide +kernel
theorem dX11_tell_17 : decode cX11_tell 17 = .ok (.sipush 5000, 3) := by decide +kernel
theorem dX11_tell_20 : decode cX11_tell 20 = .ok (.invokestatic 111, 3) := by decide +kernel
theorem dX11_tell_23 : decode cX11_tell 23 = .ok (.ifCond .eq 7, 3) := by decide +kernel
theorem dX11_tell_26 : decode cX11_tell 26 = .ok (.iconst 0, 1) := by decide +kernel
theorem dX11_tell_27 : decode cX11_tell 27 = .ok (.goto 4, 3) := by decide +kernel
theorem dX11_tell_30 : decode cX11_tell 30 = .ok (.iconst 2, 1) := by decide +kernel
theorem dX11_tell_31 : decode cX11_tell 31 = .ok (.invokevirtual 128, 3) := by decide +kernel
theorem dX11_tell_34 : decode cX11_tell 34 = .ok (.ifCond .eq 5, 3) := by decide +kernel
theorem dX11_tell_37 : decode cX11_tell 37 = .ok (.iconst 0, 1) := by decide +kernel
theorem dX11_tell_38 : decode cX11_tell 38 = .ok (.ireturn, 1) := by decide +kernel
theorem dX11_tell_39 : decode cX11_tell 39 = .ok (.aload_n 0, 1) := by decide +kernel
theorem dX11_tell_40 : decode cX11_tell 40 = .ok (.getfield 86, 3) := by decide +kernel
theorem dX11_tell_43 : decode cX11_tell 43 = .ok (.iload_n 1, 1) := by decide +kernel
theorem dX11_tell_44 : decode cX11_tell 44 = .ok (.iaload, 1) := by decide +kernel
theorem dX11_tell_45 : decode cX11_tell 45 = .ok (.istore_n 3, 1) := by decide +kernel
theorem dX11_tell_46 : decode cX11_tell 46 = .ok (.aload_n 0, 1) := by decide +kernel
theorem dX11_tell_47 : decode cX11_tell 47 = .ok (.getfield 86, 3) := by decide +kernel
theorem dX11_tell_50 : decode cX11_tell 50 = .ok (.iload_n 1, 1) := by decide +kernel
theorem dX11_tell_51 : decode cX11_tell 51 = .ok (.iload_n 2, 1) := by decide +kernel
theorem dX11_tell_52 : decode cX11_tell 52 = .ok (.iastore, 1) := by decide +kernel
theorem dX11_tell_53 : decode cX11_tell 53 = .ok (.iload_n 3, 1) := by decide +kernel
theorem dX11_tell_54 : decode cX11_tell 54 = .ok (.ireturn, 1) := by decide +kernel
theorem dX11_corrected_0 : decode cX11_corrected 0 = .ok (.aload_n 0, 1) := by decide +kernel
theorem dX11_corrected_1 : decode cX11_corrected 1 = .ok (.getfield 95, 3) := by decide +kernel
theorem dX11_corrected_4 : decode cX11_corrected 4 = .ok (.bipush 10, 2) := by decide +kernel
theorem dX11_corrected_6 : decode cX11_corrected 6 = .ok (.iload_n 1, 1) := by decide +kernel
theorem dX11_corrected_7 : decode cX11_corrected 7 = .ok (.imul, 1) := by decide +kernel
theorem dX11_corrected_8 : decode cX11_corrected 8 = .ok (.iload_n 2, 1) := by decide +kernel
theorem dX11_corrected_9 : decode cX11_corrected 9 = .ok (.iadd, 1) := by decide +kernel
theorem dX11_corrected_10 : decode cX11_corrected 10 = .ok (.iaload, 1) := by decide +kernel
theorem dX11_corrected_11 : decode cX11_corrected 11 = .ok (.aload_n 0, 1) := by decide +kernel
theorem dX11_corrected_12 : decode cX11_corrected 12 = .ok (.getfield 92, 3) := by decide +kernel
theorem dX11_corrected_15 : decode cX11_corrected 15 = .ok (.bipush 10, 2) := by decide +kernel
theorem dX11_corrected_17 : decode cX11_corrected 17 = .ok (.iload_n 1, 1) := by decide +kernel
theorem dX11_corrected_18 : decode cX11_corrected 18 = .ok (.imul, 1) := by decide +kernel
theorem dX11_corrected_19 : decode cX11_corrected 19 = .ok (.iload_n 2, 1) := by decide +kernel
theorem dX11_corrected_20 : decode cX11_corrected 20 = .ok (.iadd, 1) := by decide +kernel
theorem dX11_corrected_21 : decode cX11_corrected 21 = .ok (.iaload, 1) := by decide +kernel
theorem dX11_corrected_22 : decode cX11_corrected 22 = .ok (.invokestatic 183, 3) := by decide +kernel
theorem dX11_corrected_25 : decode cX11_corrected 25 = .ok (.isub, 1) := by decide +kernel
theorem dX11_corrected_26 : decode cX11_corrected 26 = .ok (.bipush 20, 2) := by decide +kernel
theorem dX11_corrected_28 : decode cX11_corrected 28 = .ok (.isub, 1) := by decide +kernel
theorem dX11_corrected_29 : decode cX11_corrected 29 = .ok (.aload_n 0, 1) := by decide +kernel
theorem dX11_corrected_30 : decode cX11_corrected 30 = .ok (.getfield 86, 3) := by decide +kernel
theorem dX11_corrected_33 : decode cX11_corrected 33 = .ok (.iload_n 1, 1) := by decide +kernel
theorem dX11_corrected_34 : decode cX11_corrected 34 = .ok (.iaload, 1) := by decide +kernel
theorem dX11_corrected_35 : decode cX11_corrected 35 = .ok (.isub, 1) := by decide +kernel
theorem dX11_corrected_36 : decode cX11_corrected 36 = .ok (.ireturn, 1) := by decide +kernel
theorem dX11_audit_0 : decode cX11_audit 0 = .ok (.aload_n 0, 1) := by decide +kernel
theorem dX11_audit_1 : decode cX11_audit 1 = .ok (.iload_n 1, 1) := by decide +kernel
theorem dX11_audit_2 : decode cX11_audit 2 = .ok (.iconst 0, 1) := by decide +kernel
theorem dX11_audit_3 : decode cX11_audit 3 = .ok (.ldc 186, 2) := by decide +kernel
theorem dX11_audit_5 : decode cX11_audit 5 = .ok (.invokestatic 111, 3) := by decide +kernel
theorem dX11_audit_8 : decode cX11_audit 8 = .ok (.ifCond .eq 7, 3) := by decide +kernel
theorem dX11_audit_11 : decode cX11_audit 11 = .ok (.iconst 0, 1) := by decide +kernel
theorem dX11_audit_12 : decode cX11_audit 12 = .ok (.goto 4, 3) := by decide +kernel
theorem dX11_audit_15 : decode cX11_audit 15 = .ok (.iconst 1, 1) := by decide +kernel
theorem dX11_audit_16 : decode cX11_audit 16 = .ok (.invokevirtual 128, 3) := by decide +kernel
theorem dX11_audit_19 : decode cX11_audit 19 = .ok (.ifCond .eq 5, 3) := by decide +kernel
theorem dX11_audit_22 : decode cX11_audit 22 = .ok (.iconst 0, 1) := by decide +kernel
theorem dX11_audit_23 : decode cX11_audit 23 = .ok (.ireturn, 1) := by decide +kernel
theorem dX11_audit_24 : decode cX11_audit 24 = .ok (.iconst 1, 1) := by decide +kernel
theorem dX11_audit_25 : decode cX11_audit 25 = .ok (.istore_n 2, 1) := by decide +kernel
theorem dX11_audit_26 : decode cX11_audit 26 = .ok (.iconst 0, 1) := by decide +kernel
theorem dX11_audit_27 : decode cX11_audit 27 = .ok (.istore_n 3, 1) := by decide +kernel
theorem dX11_audit_28 : decode cX11_audit 28 = .ok (.iload_n 3, 1) := by decide +kernel
theorem dX11_audit_29 : decode cX11_audit 29 = .ok (.aload_n 0, 1) := by decide +kernel
theorem dX11_audit_30 : decode cX11_audit 30 = .ok (.getfield 121, 3) := by decide +kernel
theorem dX11_audit_33 : decode cX11_audit 33 = .ok (.if_icmp .ge 45, 3) := by decide +kernel
theorem dX11_audit_36 : decode cX11_audit 36 = .ok (.iload_n 2, 1) := by decide +kernel
theorem dX11_audit_37 : decode cX11_audit 37 = .ok (.ifCond .eq 33, 3) := by decide +kernel
theorem dX11_audit_40 : decode cX11_audit 40 = .ok (.aload_n 0, 1) := by decide +kernel
theorem dX11_audit_41 : decode cX11_audit 41 = .ok (.getfield 89, 3) := by decide +kernel
theorem dX11_audit_44 : decode cX11_audit 44 = .ok (.iload_n 3, 1) := by decide +kernel
theorem dX11_audit_45 : decode cX11_audit 45 = .ok (.iaload, 1) := by decide +kernel
theorem dX11_audit_46 : decode cX11_audit 46 = .ok (.ifCond .eq 20, 3) := by decide +kernel
theorem dX11_audit_49 : decode cX11_audit 49 = .ok (.aload_n 0, 1) := by decide +kernel
theorem dX11_audit_50 : decode cX11_audit 50 = .ok (.iload_n 3, 1) := by decide +kernel
theorem dX11_audit_51 : decode cX11_audit 51 = .ok (.aload_n 0, 1) := by decide +kernel
theorem dX11_audit_52 : decode cX11_audit 52 = .ok (.getfield 89, 3) := by decide +kernel
theorem dX11_audit_55 : decode cX11_audit 55 = .ok (.iload_n 3, 1) := by decide +kernel
theorem dX11_audit_56 : decode cX11_audit 56 = .ok (.iaload, 1) := by decide +kernel
theorem dX11_audit_57 : decode cX11_audit 57 = .ok (.iconst 1, 1) := by decide +kernel
theorem dX11_audit_58 : decode cX11_audit 58 = .ok (.isub, 1) := by decide +kernel
theorem dX11_audit_59 : decode cX11_audit 59 = .ok (.invokevirtual 187, 3) := by decide +kernel
theorem dX11_audit_62 : decode cX11_audit 62 = .ok (.iload_n 1, 1) := by decide +kernel
theorem dX11_audit_63 : decode cX11_audit 63 = .ok (.if_icmp .gt 7, 3) := by decide +kernel
theorem dX11_audit_66 : decode cX11_audit 66 = .ok (.iconst 1, 1) := by decide +kernel
theorem dX11_audit_67 : decode cX11_audit 67 = .ok (.goto 4, 3) := by decide +kernel
theorem dX11_audit_70 : decode cX11_audit 70 = .ok (.iconst 0, 1) := by decide +kernel
theorem dX11_audit_71 : decode cX11_audit 71 = .ok (.istore_n 2, 1) := by decide +kernel
theorem dX11_audit_72 : decode cX11_audit 72 = .ok (.iinc 3 1, 3) := by decide +kernel
theorem dX11_audit_75 : decode cX11_audit 75 = .ok (.goto (-47), 3) := by decide +kernel
theorem dX11_audit_78 : decode cX11_audit 78 = .ok (.aload_n 0, 1) := by decide +kernel
theorem dX11_audit_79 : decode cX11_audit 79 = .ok (.iload_n 2, 1) := by decide +kernel
theorem dX11_audit_80 : decode cX11_audit 80 = .ok (.ifCond .eq 7, 3) := by decide +kernel
theorem dX11_audit_83 : decode cX11_audit 83 = .ok (.iconst 0, 1) := by decide +kernel
theorem dX11_audit_84 : decode cX11_audit 84 = .ok (.goto 9, 3) := by decide +kernel
theorem dX11_audit_87 : decode cX11_audit 87 = .ok (.aload_n 0, 1) := by decide +kernel
theorem dX11_audit_88 : decode cX11_audit 88 = .ok (.getfield 190, 3) := by decide +kernel
theorem dX11_audit_91 : decode cX11_audit 91 = .ok (.iconst 1, 1) := by decide +kernel
theorem dX11_audit_92 : decode cX11_audit 92 = .ok (.iadd, 1) := by decide +kernel
theorem dX11_audit_93 : decode cX11_audit 93 = .ok (.putfield 190, 3) := by decide +kernel
theorem dX11_audit_96 : decode cX11_audit 96 = .ok (.aload_n 0, 1) := by decide +kernel
theorem dX11_audit_97 : decode cX11_audit 97 = .ok (.iload_n 2, 1) := by decide +kernel
theorem dX11_audit_98 : decode cX11_audit 98 = .ok (.ifCond .eq 12, 3) := by decide +kernel
theorem dX11_audit_101 : decode cX11_audit 101 = .ok (.aload_n 0, 1) := by decide +kernel
theorem dX11_audit_102 : decode cX11_audit 102 = .ok (.getfield 193, 3) := by decide +kernel
theorem dX11_audit_105 : decode cX11_audit 105 = .ok (.iconst 1, 1) := by decide +kernel
theorem dX11_audit_106 : decode cX11_audit 106 = .ok (.iadd, 1) := by decide +kernel
theorem dX11_audit_107 : decode cX11_audit 107 = .ok (.goto 4, 3) := by decide +kernel
theorem dX11_audit_110 : decode cX11_audit 110 = .ok (.iconst 0, 1) := by decide +kernel
theorem dX11_audit_111 : decode cX11_audit 111 = .ok (.putfield 193, 3) := by decide +kernel
theorem dX11_audit_114 : decode cX11_audit 114 = .ok (.aload_n 0, 1) := by decide +kernel
theorem dX11_audit_115 : decode cX11_audit 115 = .ok (.aload_n 0, 1) := by decide +kernel
theorem dX11_audit_116 : decode cX11_audit 116 = .ok (.getfield 190, 3) := by decide +kernel
theorem dX11_audit_119 : decode cX11_audit 119 = .ok (.iconst 2, 1) := by decide +kernel
theorem dX11_audit_120 : decode cX11_audit 120 = .ok (.if_icmp .ge 18, 3) := by decide +kernel
theorem dX11_audit_123 : decode cX11_audit 123 = .ok (.aload_n 0, 1) := by decide +kernel
theorem dX11_audit_124 : decode cX11_audit 124 = .ok (.getfield 196, 3) := by decide +kernel
theorem dX11_audit_127 : decode cX11_audit 127 = .ok (.ifCond .eq 15, 3) := by decide +kernel
theorem dX11_audit_130 : decode cX11_audit 130 = .ok (.aload_n 0, 1) := by decide +kernel
theorem dX11_audit_131 : decode cX11_audit 131 = .ok (.getfield 193, 3) := by decide +kernel
theorem dX11_audit_134 : decode cX11_audit 134 = .ok (.iconst 3, 1) := by decide +kernel
theorem dX11_audit_135 : decode cX11_audit 135 = .ok (.if_icmp .ge 7, 3) := by decide +kernel
theorem dX11_audit_138 : decode cX11_audit 138 = .ok (.iconst 1, 1) := by decide +kernel
theorem dX11_audit_139 : decode cX11_audit 139 = .ok (.goto 4, 3) := by decide +kernel
theorem dX11_audit_142 : decode cX11_audit 142 = .ok (.iconst 0, 1) := by decide +kernel
theorem dX11_audit_143 : decode cX11_audit 143 = .ok (.putfield 196, 3) := by decide +kernel
theorem dX11_audit_146 : decode cX11_audit 146 = .ok (.iload_n 2, 1) := by decide +kernel
theorem dX11_audit_147 : decode cX11_audit 147 = .ok (.ireturn, 1) := by decide +kernel
theorem dX11_satellite_0 : decode cX11_satellite 0 = .ok (.iload_n 1, 1) := by decide +kernel
theorem dX11_satellite_1 : decode cX11_satellite 1 = .ok (.iconst 1, 1) := by decide +kernel
theorem dX11_satellite_2 : decode cX11_satellite 2 = .ok (.bipush 100, 2) := by decide +kernel
theorem dX11_satellite_4 : decode cX11_satellite 4 = .ok (.invokestatic 111, 3) := by decide +kernel
theorem dX11_satellite_7 : decode cX11_satellite 7 = .ok (.ifCond .eq 18, 3) := by decide +kernel
theorem dX11_satellite_10 : decode cX11_satellite 10 = .ok (.iload_n 2, 1) := by decide +kernel
theorem dX11_satellite_11 : decode cX11_satellite 11 = .ok (.iconst 0, 1) := by decide +kernel
theorem dX11_satellite_12 : decode cX11_satellite 12 = .ok (.iload_n 1, 1) := by decide +kernel
theorem dX11_satellite_13 : decode cX11_satellite 13 = .ok (.iconst 1, 1) := by decide +kernel
theorem dX11_satellite_14 : decode cX11_satellite 14 = .ok (.isub, 1) := by decide +kernel
theorem dX11_satellite_15 : decode cX11_satellite 15 = .ok (.invokestatic 111, 3) := by decide +kernel
theorem dX11_satellite_18 : decode cX11_satellite 18 = .ok (.ifCond .eq 7, 3) := by decide +kernel
theorem dX11_satellite_21 : decode cX11_satellite 21 = .ok (.iconst 1, 1) := by decide +kernel
theorem dX11_satellite_22 : decode cX11_satellite 22 = .ok (.goto 4, 3) := by decide +kernel
theorem dX11_satellite_25 : decode cX11_satellite 25 = .ok (.iconst 0, 1) := by decide +kernel
theorem dX11_satellite_26 : decode cX11_satellite 26 = .ok (.istore_n 3, 1) := by decide +kernel
theorem dX11_satellite_27 : decode cX11_satellite 27 = .ok (.aload_n 0, 1) := by decide +kernel
theorem dX11_satellite_28 : decode cX11_satellite 28 = .ok (.iload_n 3, 1) := by decide +kernel
theorem dX11_satellite_29 : decode cX11_satellite 29 = .ok (.ifCond .ne 7, 3) := by decide +kernel
theorem dX11_satellite_32 : decode cX11_satellite 32 = .ok (.iconst 1, 1) := by decide +kernel
theorem dX11_satellite_33 : decode cX11_satellite 33 = .ok (.goto 17, 3) := by decide +kernel
theorem dX11_satellite_36 : decode cX11_satellite 36 = .ok (.aload_n 0, 1) := by decide +kernel
theorem dX11_satellite_37 : decode cX11_satellite 37 = .ok (.getfield 200, 3) := by decide +kernel
theorem dX11_satellite_40 : decode cX11_satellite 40 = .ok (.bipush 10, 2) := by decide +kernel
theorem dX11_satellite_42 : decode cX11_satellite 42 = .ok (.if_icmp .ne 7, 3) := by decide +kernel
theorem dX11_satellite_45 : decode cX11_satellite 45 = .ok (.iconst 2, 1) := by decide +kernel
theorem dX11_satellite_46 : decode cX11_satellite 46 = .ok (.goto 4, 3) := by decide +kernel
theorem dX11_satellite_49 : decode cX11_satellite 49 = .ok (.iconst 0, 1) := by decide +kernel
theorem dX11_satellite_50 : decode cX11_satellite 50 = .ok (.invokevirtual 128, 3) := by decide +kernel
theorem dX11_satellite_53 : decode cX11_satellite 53 = .ok (.ifCond .eq 5, 3) := by decide +kernel
theorem dX11_satellite_56 : decode cX11_satellite 56 = .ok (.iconst 0, 1) := by decide +kernel
theorem dX11_satellite_57 : decode cX11_satellite 57 = .ok (.ireturn, 1) := by decide +kernel
theorem dX11_satellite_58 : decode cX11_satellite 58 = .ok (.aload_n 0, 1) := by decide +kernel
theorem dX11_satellite_59 : decode cX11_satellite 59 = .ok (.getfield 98, 3) := by decide +kernel
theorem dX11_satellite_62 : decode cX11_satellite 62 = .ok (.aload_n 0, 1) := by decide +kernel
theorem dX11_satellite_63 : decode cX11_satellite 63 = .ok (.getfield 200, 3) := by decide +kernel
theorem dX11_satellite_66 : decode cX11_satellite 66 = .ok (.iload_n 1, 1) := by decide +kernel
theorem dX11_satellite_67 : decode cX11_satellite 67 = .ok (.iastore, 1) := by decide +kernel
theorem dX11_satellite_68 : decode cX11_satellite 68 = .ok (.aload_n 0, 1) := by decide +kernel
theorem dX11_satellite_69 : decode cX11_satellite 69 = .ok (.getfield 101, 3) := by decide +kernel
theorem dX11_satellite_72 : decode cX11_satellite 72 = .ok (.aload_n 0, 1) := by decide +kernel
theorem dX11_satellite_73 : decode cX11_satellite 73 = .ok (.getfield 200, 3) := by decide +kernel
theorem dX11_satellite_76 : decode cX11_satellite 76 = .ok (.iload_n 2, 1) := by decide +kernel
theorem dX11_satellite_77 : decode cX11_satellite 77 = .ok (.iastore, 1) := by decide +kernel
theorem dX11_satellite_78 : decode cX11_satellite 78 = .ok (.aload_n 0, 1) := by decide +kernel
theorem dX11_satellite_79 : decode cX11_satellite 79 = .ok (.dup, 1) := by decide +kernel
theorem dX11_satellite_80 : decode cX11_satellite 80 = .ok (.getfield 200, 3) := by decide +kernel
theorem dX11_satellite_83 : decode cX11_satellite 83 = .ok (.iconst 1, 1) := by decide +kernel
theorem dX11_satellite_84 : decode cX11_satellite 84 = .ok (.iadd, 1) := by decide +kernel
theorem dX11_satellite_85 : decode cX11_satellite 85 = .ok (.putfield 200, 3) := by decide +kernel
theorem dX11_satellite_88 : decode cX11_satellite 88 = .ok (.aload_n 0, 1) := by decide +kernel
theorem dX11_satellite_89 : decode cX11_satellite 89 = .ok (.getfield 200, 3) := by decide +kernel
theorem dX11_satellite_92 : decode cX11_satellite 92 = .ok (.iconst 1, 1) := by decide +kernel
theorem dX11_satellite_93 : decode cX11_satellite 93 = .ok (.isub, 1) := by decide +kernel
theorem dX11_satellite_94 : decode cX11_satellite 94 = .ok (.ireturn, 1) := by decide +kernel
theorem dX11_time_0 : decode cX11_time 0 = .ok (.aload_n 0, 1) := by decide +kernel
theorem dX11_time_1 : decode cX11_time 1 = .ok (.iconst 0, 1) := by decide +kernel
theorem dX11_time_2 : decode cX11_time 2 = .ok (.putfield 107, 3) := by decide +kernel
theorem dX11_time_5 : decode cX11_time 5 = .ok (.aload_n 0, 1) := by decide +kernel
theorem dX11_time_6 : decode cX11_time 6 = .ok (.getfield 137, 3) := by decide +kernel
theorem dX11_time_9 : decode cX11_time 9 = .ok (.ireturn, 1) := by decide +kernel
theorem dX11_ofLamp_0 : decode cX11_ofLamp 0 = .ok (.aload_n 0, 1) := by decide +kernel
theorem dX11_ofLamp_1 : decode cX11_ofLamp 1 = .ok (.aload_n 0, 1) := by decide +kernel
theorem dX11_ofLamp_2 : decode cX11_ofLamp 2 = .ok (.iload_n 1, 1) := by decide +kernel
theorem dX11_ofLamp_3 : decode cX11_ofLamp 3 = .ok (.invokevirtual 151, 3) := by decide +kernel
theorem dX11_ofLamp_6 : decode cX11_ofLamp 6 = .ok (.ifCond .ne 7, 3) := by decide +kernel
theorem dX11_ofLamp_9 : decode cX11_ofLamp 9 = .ok (.iconst 1, 1) := by decide +kernel
theorem dX11_ofLamp_10 : decode cX11_ofLamp 10 = .ok (.goto 18, 3) := by decide +kernel
theorem dX11_ofLamp_13 : decode cX11_ofLamp 13 = .ok (.iload_n 2, 1) := by decide +kernel
theorem dX11_ofLamp_14 : decode cX11_ofLamp 14 = .ok (.iconst 0, 1) := by decide +kernel
theorem dX11_ofLamp_15 : decode cX11_ofLamp 15 = .ok (.bipush 6, 2) := by decide +kernel
theorem dX11_ofLamp_17 : decode cX11_ofLamp 17 = .ok (.invokestatic 111, 3) := by decide +kernel
theorem dX11_ofLamp_20 : decode cX11_ofLamp 20 = .ok (.ifCond .eq 7, 3) := by decide +kernel
theorem dX11_ofLamp_23 : decode cX11_ofLamp 23 = .ok (.iconst 0, 1) := by decide +kernel
theorem dX11_ofLamp_24 : decode cX11_ofLamp 24 = .ok (.goto 4, 3) := by decide +kernel
theorem dX11_ofLamp_27 : decode cX11_ofLamp 27 = .ok (.iconst 2, 1) := by decide +kernel
theorem dX11_ofLamp_28 : decode cX11_ofLamp 28 = .ok (.invokevirtual 128, 3) := by decide +kernel
theorem dX11_ofLamp_31 : decode cX11_ofLamp 31 = .ok (.ifCond .eq 5, 3) := by decide +kernel
theorem dX11_ofLamp_34 : decode cX11_ofLamp 34 = .ok (.iconst 0, 1) := by decide +kernel
theorem dX11_ofLamp_35 : decode cX11_ofLamp 35 = .ok (.ireturn, 1) := by decide +kernel
theorem dX11_ofLamp_36 : decode cX11_ofLamp 36 = .ok (.iload_n 2, 1) := by decide +kernel
theorem dX11_ofLamp_37 : decode cX11_ofLamp 37 = .ok (.tableswitch 104 0 5 #[39, 53, 59, 66, 73, 80], 39) := by decide +kernel
theorem dX11_ofLamp_76 : decode cX11_ofLamp 76 = .ok (.aload_n 0, 1) := by decide +kernel
theorem dX11_ofLamp_77 : decode cX11_ofLamp 77 = .ok (.iload_n 1, 1) := by decide +kernel
theorem dX11_ofLamp_78 : decode cX11_ofLamp 78 = .ok (.invokevirtual 140, 3) := by decide +kernel
theorem dX11_ofLamp_81 : decode cX11_ofLamp 81 = .ok (.ifCond .eq 7, 3) := by decide +kernel
theorem dX11_ofLamp_84 : decode cX11_ofLamp 84 = .ok (.iconst 1, 1) := by decide +kernel
theorem dX11_ofLamp_85 : decode cX11_ofLamp 85 = .ok (.goto 4, 3) := by decide +kernel
theorem dX11_ofLamp_88 : decode cX11_ofLamp 88 = .ok (.iconst 0, 1) := by decide +kernel
theorem dX11_ofLamp_89 : decode cX11_ofLamp 89 = .ok (.ireturn, 1) := by decide +kernel
theorem dX11_ofLamp_90 : decode cX11_ofLamp 90 = .ok (.aload_n 0, 1) := by decide +kernel
theorem dX11_ofLamp_91 : decode cX11_ofLamp 91 = .ok (.iload_n 1, 1) := by decide +kernel
theorem dX11_ofLamp_92 : decode cX11_ofLamp 92 = .ok (.invokevirtual 163, 3) := by decide +kernel
theorem dX11_ofLamp_95 : decode cX11_ofLamp 95 = .ok (.ireturn, 1) := by decide +kernel
theorem dX11_ofLamp_96 : decode cX11_ofLamp 96 = .ok (.aload_n 0, 1) := by decide +kernel
theorem dX11_ofLamp_97 : decode cX11_ofLamp 97 = .ok (.getfield 68, 3) := by decide +kernel
theorem dX11_ofLamp_100 : decode cX11_ofLamp 100 = .ok (.iload_n 1, 1) := by decide +kernel
theorem dX11_ofLamp_101 : decode cX11_ofLamp 101 = .ok (.iaload, 1) := by decide +kernel
theorem dX11_ofLamp_102 : decode cX11_ofLamp 102 = .ok (.ireturn, 1) := by decide +kernel
theorem dX11_ofLamp_103 : decode cX11_ofLamp 103 = .ok (.aload_n 0, 1) := by decide +kernel
theorem dX11_ofLamp_104 : decode cX11_ofLamp 104 = .ok (.getfield 53, 3) := by decide +kernel
theorem dX11_ofLamp_107 : decode cX11_ofLamp 107 = .ok (.iload_n 1, 1) := by decide +kernel
theorem dX11_ofLamp_108 : decode cX11_ofLamp 108 = .ok (.iaload, 1) := by decide +kernel
theorem dX11_ofLamp_109 : decode cX11_ofLamp 109 = .ok (.ireturn, 1) := by decide +kernel
theorem dX11_ofLamp_110 : decode cX11_ofLamp 110 = .ok (.aload_n 0, 1) := by decide +kernel
theorem dX11_ofLamp_111 : decode cX11_ofLamp 111 = .ok (.getfield 56, 3) := by decide +kernel
theorem dX11_ofLamp_114 : decode cX11_ofLamp 114 = .ok (.iload_n 1, 1) := by decide +kernel
theorem dX11_ofLamp_115 : decode cX11_ofLamp 115 = .ok (.iaload, 1) := by decide +kernel
theorem dX11_ofLamp_116 : decode cX11_ofLamp 116 = .ok (.ireturn, 1) := by decide +kernel
theorem dX11_ofLamp_117 : decode cX11_ofLamp 117 = .ok (.aload_n 0, 1) := by decide +kernel
theorem dX11_ofLamp_118 : decode cX11_ofLamp 118 = .ok (.iload_n 1, 1) := by decide +kernel
theorem dX11_ofLamp_119 : decode cX11_ofLamp 119 = .ok (.invokevirtual 154, 3) := by decide +kernel
theorem dX11_ofLamp_122 : decode cX11_ofLamp 122 = .ok (.ifCond .eq 17, 3) := by decide +kernel
theorem dX11_ofLamp_125 : decode cX11_ofLamp 125 = .ok (.aload_n 0, 1) := by decide +kernel
theorem dX11_ofLamp_126 : decode cX11_ofLamp 126 = .ok (.getfield 71, 3) := by decide +kernel
theorem dX11_ofLamp_129 : decode cX11_ofLamp 129 = .ok (.iload_n 1, 1) := by decide +kernel
theorem dX11_ofLamp_130 : decode cX11_ofLamp 130 = .ok (.iaload, 1) := by decide +kernel
theorem dX11_ofLamp_131 : decode cX11_ofLamp 131 = .ok (.aload_n 0, 1) := by decide +kernel
theorem dX11_ofLamp_132 : decode cX11_ofLamp 132 = .ok (.getfield 137, 3) := by decide +kernel
theorem dX11_ofLamp_135 : decode cX11_ofLamp 135 = .ok (.isub, 1) := by decide +kernel
theorem dX11_ofLamp_136 : decode cX11_ofLamp 136 = .ok (.goto 4, 3) := by decide +kernel
theorem dX11_ofLamp_139 : decode cX11_ofLamp 139 = .ok (.iconst 0, 1) := by decide +kernel
theorem dX11_ofLamp_140 : decode cX11_ofLamp 140 = .ok (.ireturn, 1) := by decide +kernel
theorem dX11_ofLamp_141 : decode cX11_ofLamp 141 = .ok (.aload_n 0, 1) := by decide +kernel
theorem dX11_ofLamp_142 : decode cX11_ofLamp 142 = .ok (.iload_n 1, 1) := by decide +kernel
theorem dX11_ofLamp_143 : decode cX11_ofLamp 143 = .ok (.invokevirtual 157, 3) := by decide +kernel
theorem dX11_ofLamp_146 : decode cX11_ofLamp 146 = .ok (.ifCond .eq 7, 3) := by decide +kernel
theorem dX11_ofLamp_149 : decode cX11_ofLamp 149 = .ok (.iconst 1, 1) := by decide +kernel
theorem dX11_ofLamp_150 : decode cX11_ofLamp 150 = .ok (.goto 4, 3) := by decide +kernel
theorem dX11_ofLamp_153 : decode cX11_ofLamp 153 = .ok (.iconst 0, 1) := by decide +kernel
theorem dX11_ofLamp_154 : decode cX11_ofLamp 154 = .ok (.ireturn, 1) := by decide +kernel
theorem dX11_ofVillage_0 : decode cX11_ofVillage 0 = .ok (.aload_n 0, 1) := by decide +kernel
theorem dX11_ofVillage_1 : decode cX11_ofVillage 1 = .ok (.aload_n 0, 1) := by decide +kernel
theorem dX11_ofVillage_2 : decode cX11_ofVillage 2 = .ok (.iload_n 1, 1) := by decide +kernel
theorem dX11_ofVillage_3 : decode cX11_ofVillage 3 = .ok (.invokevirtual 143, 3) := by decide +kernel
theorem dX11_ofVillage_6 : decode cX11_ofVillage 6 = .ok (.ifCond .ne 7, 3) := by decide +kernel
theorem dX11_ofVillage_9 : decode cX11_ofVillage 9 = .ok (.iconst 1, 1) := by decide +kernel
theorem dX11_ofVillage_10 : decode cX11_ofVillage 10 = .ok (.goto 17, 3) := by decide +kernel
theorem dX11_ofVillage_13 : decode cX11_ofVillage 13 = .ok (.iload_n 2, 1) := by decide +kernel
theorem dX11_ofVillage_14 : decode cX11_ofVillage 14 = .ok (.iconst 0, 1) := by decide +kernel
theorem dX11_ofVillage_15 : decode cX11_ofVillage 15 = .ok (.iconst 3, 1) := by decide +kernel
theorem dX11_ofVillage_16 : decode cX11_ofVillage 16 = .ok (.invokestatic 111, 3) := by decide +kernel
theorem dX11_ofVillage_19 : decode cX11_ofVillage 19 = .ok (.ifCond .eq 7, 3) := by decide +kernel
theorem dX11_ofVillage_22 : decode cX11_ofVillage 22 = .ok (.iconst 0, 1) := by decide +kernel
theorem dX11_ofVillage_23 : decode cX11_ofVillage 23 = .ok (.goto 4, 3) := by decide +kernel
theorem dX11_ofVillage_26 : decode cX11_ofVillage 26 = .ok (.iconst 2, 1) := by decide +kernel
theorem dX11_ofVillage_27 : decode cX11_ofVillage 27 = .ok (.invokevirtual 128, 3) := by decide +kernel
theorem dX11_ofVillage_30 : decode cX11_ofVillage 30 = .ok (.ifCond .eq 5, 3) := by decide +kernel
theorem dX11_ofVillage_33 : decode cX11_ofVillage 33 = .ok (.iconst 0, 1) := by decide +kernel
theorem dX11_ofVillage_34 : decode cX11_ofVillage 34 = .ok (.ireturn, 1) := by decide +kernel
theorem dX11_ofVillage_35 : decode cX11_ofVillage 35 = .ok (.iconst 0, 1) := by decide +kernel
theorem dX11_ofVillage_36 : decode cX11_ofVillage 36 = .ok (.istore_n 3, 1) := by decide +kernel
theorem dX11_ofVillage_37 : decode cX11_ofVillage 37 = .ok (.iconst 0, 1) := by decide +kernel
theorem dX11_ofVillage_38 : decode cX11_ofVillage 38 = .ok (.istore 4, 2) := by decide +kernel
theorem dX11_ofVillage_40 : decode cX11_ofVillage 40 = .ok (.iload 4, 2) := by decide +kernel
theorem dX11_ofVillage_42 : decode cX11_ofVillage 42 = .ok (.aload_n 0, 1) := by decide +kernel
theorem dX11_ofVillage_43 : decode cX11_ofVillage 43 = .ok (.getfield 118, 3) := by decide +kernel
theorem dX11_ofVillage_46 : decode cX11_ofVillage 46 = .ok (.if_icmp .ge 37, 3) := by decide +kernel
theorem dX11_ofVillage_49 : decode cX11_ofVillage 49 = .ok (.iload_n 3, 1) := by decide +kernel
theorem dX11_ofVillage_50 : decode cX11_ofVillage 50 = .ok (.aload_n 0, 1) := by decide +kernel
theorem dX11_ofVillage_51 : decode cX11_ofVillage 51 = .ok (.getfield 41, 3) := by decide +kernel
theorem dX11_ofVillage_54 : decode cX11_ofVillage 54 = .ok (.iload 4, 2) := by decide +kernel
theorem dX11_ofVillage_56 : decode cX11_ofVillage 56 = .ok (.iaload, 1) := by decide +kernel
theorem dX11_ofVillage_57 : decode cX11_ofVillage 57 = .ok (.iload_n 1, 1) := by decide +kernel
theorem dX11_ofVillage_58 : decode cX11_ofVillage 58 = .ok (.if_icmp .ne 16, 3) := by decide +kernel
theorem dX11_ofVillage_61 : decode cX11_ofVillage 61 = .ok (.aload_n 0, 1) := by decide +kernel
theorem dX11_ofVillage_62 : decode cX11_ofVillage 62 = .ok (.iload 4, 2) := by decide +kernel
theorem dX11_ofVillage_64 : decode cX11_ofVillage 64 = .ok (.invokevirtual 140, 3) := by decide +kernel
theorem dX11_ofVillage_67 : decode cX11_ofVillage 67 = .ok (.ifCond .eq 7, 3) := by decide +kernel
theorem dX11_ofVillage_70 : decode cX11_ofVillage 70 = .ok (.iconst 1, 1) := by decide +kernel
theorem dX11_ofVillage_71 : decode cX11_ofVillage 71 = .ok (.goto 4, 3) := by decide +kernel
theorem dX11_ofVillage_74 : decode cX11_ofVillage 74 = .ok (.iconst 0, 1) := by decide +kernel
theorem dX11_ofVillage_75 : decode cX11_ofVillage 75 = .ok (.iadd, 1) := by decide +kernel
theorem dX11_ofVillage_76 : decode cX11_ofVillage 76 = .ok (.istore_n 3, 1) := by decide +kernel
theorem dX11_ofVillage_77 : decode cX11_ofVillage 77 = .ok (.iinc 4 1, 3) := by decide +kernel
theorem dX11_ofVillage_80 : decode cX11_ofVillage 80 = .ok (.goto (-40), 3) := by decide +kernel
theorem dX11_ofVillage_83 : decode cX11_ofVillage 83 = .ok (.iload_n 2, 1) := by decide +kernel
theorem dX11_ofVillage_84 : decode cX11_ofVillage 84 = .ok (.ifCond .ne 12, 3) := by decide +kernel
theorem dX11_ofVillage_87 : decode cX11_ofVillage 87 = .ok (.aload_n 0, 1) := by decide +kernel
theorem dX11_ofVillage_88 : decode cX11_ofVillage 88 = .ok (.getfield 32, 3) := by decide +kernel
theorem dX11_ofVillage_91 : decode cX11_ofVillage 91 = .ok (.iload_n 1, 1) := by decide +kernel
theorem dX11_ofVillage_92 : decode cX11_ofVillage 92 = .ok (.iaload, 1) := by decide +kernel
theorem dX11_ofVillage_93 : decode cX11_ofVillage 93 = .ok (.goto 31, 3) := by decide +kernel
theorem dX11_ofVillage_96 : decode cX11_ofVillage 96 = .ok (.iload_n 2, 1) := by decide +kernel
theorem dX11_ofVillage_97 : decode cX11_ofVillage 97 = .ok (.iconst 1, 1) := by decide +kernel
theorem dX11_ofVillage_98 : decode cX11_ofVillage 98 = .ok (.if_icmp .ne 11, 3) := by decide +kernel
theorem dX11_ofVillage_101 : decode cX11_ofVillage 101 = .ok (.aload_n 0, 1) := by decide +kernel
theorem dX11_ofVillage_102 : decode cX11_ofVillage 102 = .ok (.iload_n 1, 1) := by decide +kernel
theorem dX11_ofVillage_103 : decode cX11_ofVillage 103 = .ok (.invokevirtual 146, 3) := by decide +kernel
theorem dX11_ofVillage_106 : decode cX11_ofVillage 106 = .ok (.goto 18, 3) := by decide +kernel
theorem dX11_ofVillage_109 : decode cX11_ofVillage 109 = .ok (.iload_n 2, 1) := by decide +kernel
theorem dX11_ofVillage_110 : decode cX11_ofVillage 110 = .ok (.iconst 2, 1) := by decide +kernel
theorem dX11_ofVillage_111 : decode cX11_ofVillage 111 = .ok (.if_icmp .ne 7, 3) := by decide +kernel
theorem dX11_ofVillage_114 : decode cX11_ofVillage 114 = .ok (.iload_n 3, 1) := by decide +kernel
theorem dX11_ofVillage_115 : decode cX11_ofVillage 115 = .ok (.goto 9, 3) := by decide +kernel
theorem dX11_ofVillage_118 : decode cX11_ofVillage 118 = .ok (.aload_n 0, 1) := by decide +kernel
theorem dX11_ofVillage_119 : decode cX11_ofVillage 119 = .ok (.getfield 35, 3) := by decide +kernel
theorem dX11_ofVillage_122 : decode cX11_ofVillage 122 = .ok (.iload_n 1, 1) := by decide +kernel
theorem dX11_ofVillage_123 : decode cX11_ofVillage 123 = .ok (.iaload, 1) := by decide +kernel
theorem dX11_ofVillage_124 : decode cX11_ofVillage 124 = .ok (.ireturn, 1) := by decide +kernel
theorem dX11_gives_0 : decode cX11_gives 0 = .ok (.aload_n 0, 1) := by decide +kernel
theorem dX11_gives_1 : decode cX11_gives 1 = .ok (.aload_n 0, 1) := by decide +kernel
theorem dX11_gives_2 : decode cX11_gives 2 = .ok (.iload_n 1, 1) := by decide +kernel
theorem dX11_gives_3 : decode cX11_gives 3 = .ok (.invokevirtual 151, 3) := by decide +kernel
theorem dX11_gives_6 : decode cX11_gives 6 = .ok (.ifCond .eq 14, 3) := by decide +kernel
theorem dX11_gives_9 : decode cX11_gives 9 = .ok (.iload_n 2, 1) := by decide +kernel
theorem dX11_gives_10 : decode cX11_gives 10 = .ok (.invokestatic 124, 3) := by decide +kernel
theorem dX11_gives_13 : decode cX11_gives 13 = .ok (.ifCond .eq 7, 3) := by decide +kernel
theorem dX11_gives_16 : decode cX11_gives 16 = .ok (.iconst 0, 1) := by decide +kernel
theorem dX11_gives_17 : decode cX11_gives 17 = .ok (.goto 4, 3) := by decide +kernel
theorem dX11_gives_20 : decode cX11_gives 20 = .ok (.iconst 1, 1) := by decide +kernel
theorem dX11_gives_21 : decode cX11_gives 21 = .ok (.invokevirtual 128, 3) := by decide +kernel
theorem dX11_gives_24 : decode cX11_gives 24 = .ok (.ifCond .eq 7, 3) := by decide +kernel
theorem dX11_gives_27 : decode cX11_gives 27 = .ok (.iconst 0, 1) := by decide +kernel
theorem dX11_gives_28 : decode cX11_gives 28 = .ok (.goto 9, 3) := by decide +kernel
theorem dX11_gives_31 : decode cX11_gives 31 = .ok (.aload_n 0, 1) := by decide +kernel
theorem dX11_gives_32 : decode cX11_gives 32 = .ok (.iload_n 1, 1) := by decide +kernel
theorem dX11_gives_33 : decode cX11_gives 33 = .ok (.iload_n 2, 1) := by decide +kernel
theorem dX11_gives_34 : decode cX11_gives 34 = .ok (.invokevirtual 174, 3) := by decide +kernel
theorem dX11_gives_37 : decode cX11_gives 37 = .ok (.ireturn, 1) := by decide +kernel
theorem dX11_glow_0 : decode cX11_glow 0 = .ok (.aload_n 0, 1) := by decide +kernel
theorem dX11_glow_1 : decode cX11_glow 1 = .ok (.iload_n 1, 1) := by decide +kernel
theorem dX11_glow_2 : decode cX11_glow 2 = .ok (.invokestatic 124, 3) := by decide +kernel
theorem dX11_glow_5 : decode cX11_glow 5 = .ok (.ifCond .eq 7, 3) := by decide +kernel
theorem dX11_glow_8 : decode cX11_glow 8 = .ok (.iconst 0, 1) := by decide +kernel
theorem dX11_glow_9 : decode cX11_glow 9 = .ok (.goto 4, 3) := by decide +kernel
theorem dX11_glow_12 : decode cX11_glow 12 = .ok (.iconst 1, 1) := by decide +kernel
theorem dX11_glow_13 : decode cX11_glow 13 = .ok (.invokevirtual 128, 3) := by decide +kernel
theorem dX11_glow_16 : decode cX11_glow 16 = .ok (.ifCond .eq 7, 3) := by decide +kernel
theorem dX11_glow_19 : decode cX11_glow 19 = .ok (.iconst 0, 1) := by decide +kernel
theorem dX11_glow_20 : decode cX11_glow 20 = .ok (.goto 8, 3) := by decide +kernel
theorem dX11_glow_23 : decode cX11_glow 23 = .ok (.aload_n 0, 1) := by decide +kernel
theorem dX11_glow_24 : decode cX11_glow 24 = .ok (.iload_n 1, 1) := by decide +kernel
theorem dX11_glow_25 : decode cX11_glow 25 = .ok (.invokevirtual 180, 3) := by decide +kernel
theorem dX11_glow_28 : decode cX11_glow 28 = .ok (.ireturn, 1) := by decide +kernel
theorem dX11_glowFrom_0 : decode cX11_glowFrom 0 = .ok (.aload_n 0, 1) := by decide +kernel
theorem dX11_glowFrom_1 : decode cX11_glowFrom 1 = .ok (.iload_n 1, 1) := by decide +kernel
theorem dX11_glowFrom_2 : decode cX11_glowFrom 2 = .ok (.invokestatic 124, 3) := by decide +kernel
theorem dX11_glowFrom_5 : decode cX11_glowFrom 5 = .ok (.ifCond .ne 7, 3) := by decide +kernel
theorem dX11_glowFrom_8 : decode cX11_glowFrom 8 = .ok (.iconst 1, 1) := by decide +kernel
theorem dX11_glowFrom_9 : decode cX11_glowFrom 9 = .ok (.goto 17, 3) := by decide +kernel
theorem dX11_glowFrom_12 : decode cX11_glowFrom 12 = .ok (.iload_n 2, 1) := by decide +kernel
theorem dX11_glowFrom_13 : decode cX11_glowFrom 13 = .ok (.iconst 0, 1) := by decide +kernel
theorem dX11_glowFrom_14 : decode cX11_glowFrom 14 = .ok (.iconst 4, 1) := by decide +kernel
theorem dX11_glowFrom_15 : decode cX11_glowFrom 15 = .ok (.invokestatic 111, 3) := by decide +kernel
theorem dX11_glowFrom_18 : decode cX11_glowFrom 18 = .ok (.ifCond .eq 7, 3) := by decide +kernel
theorem dX11_glowFrom_21 : decode cX11_glowFrom 21 = .ok (.iconst 0, 1) := by decide +kernel
theorem dX11_glowFrom_22 : decode cX11_glowFrom 22 = .ok (.goto 4, 3) := by decide +kernel
theorem dX11_glowFrom_25 : decode cX11_glowFrom 25 = .ok (.iconst 2, 1) := by decide +kernel
theorem dX11_glowFrom_26 : decode cX11_glowFrom 26 = .ok (.invokevirtual 128, 3) := by decide +kernel
theorem dX11_glowFrom_29 : decode cX11_glowFrom 29 = .ok (.ifCond .eq 5, 3) := by decide +kernel
theorem dX11_glowFrom_32 : decode cX11_glowFrom 32 = .ok (.iconst 0, 1) := by decide +kernel
theorem dX11_glowFrom_33 : decode cX11_glowFrom 33 = .ok (.ireturn, 1) := by decide +kernel
theorem dX11_glowFrom_34 : decode cX11_glowFrom 34 = .ok (.iconst 0, 1) := by decide +kernel
theorem dX11_glowFrom_35 : decode cX11_glowFrom 35 = .ok (.istore_n 3, 1) := by decide +kernel
theorem dX11_glowFrom_36 : decode cX11_glowFrom 36 = .ok (.iconst 0, 1) := by decide +kernel
theorem dX11_glowFrom_37 : decode cX11_glowFrom 37 = .ok (.istore 4, 2) := by decide +kernel
theorem dX11_glowFrom_39 : decode cX11_glowFrom 39 = .ok (.iload 4, 2) := by decide +kernel
theorem dX11_glowFrom_41 : decode cX11_glowFrom 41 = .ok (.aload_n 0, 1) := by decide +kernel
theorem dX11_glowFrom_42 : decode cX11_glowFrom 42 = .ok (.getfield 118, 3) := by decide +kernel
theorem dX11_glowFrom_45 : decode cX11_glowFrom 45 = .ok (.if_icmp .ge 34, 3) := by decide +kernel
theorem dX11_glowFrom_48 : decode cX11_glowFrom 48 = .ok (.iload_n 3, 1) := by decide +kernel
theorem dX11_glowFrom_49 : decode cX11_glowFrom 49 = .ok (.aload_n 0, 1) := by decide +kernel
theorem dX11_glowFrom_50 : decode cX11_glowFrom 50 = .ok (.iload 4, 2) := by decide +kernel
theorem dX11_glowFrom_52 : decode cX11_glowFrom 52 = .ok (.iload_n 1, 1) := by decide +kernel
theorem dX11_glowFrom_53 : decode cX11_glowFrom 53 = .ok (.invokevirtual 203, 3) := by decide +kernel
theorem dX11_glowFrom_56 : decode cX11_glowFrom 56 = .ok (.iload_n 2, 1) := by decide +kernel
theorem dX11_glowFrom_57 : decode cX11_glowFrom 57 = .ok (.if_icmp .ne 13, 3) := by decide +kernel
theorem dX11_glowFrom_60 : decode cX11_glowFrom 60 = .ok (.aload_n 0, 1) := by decide +kernel
theorem dX11_glowFrom_61 : decode cX11_glowFrom 61 = .ok (.iload 4, 2) := by decide +kernel
theorem dX11_glowFrom_63 : decode cX11_glowFrom 63 = .ok (.iload_n 1, 1) := by decide +kernel
theorem dX11_glowFrom_64 : decode cX11_glowFrom 64 = .ok (.invokevirtual 174, 3) := by decide +kernel
theorem dX11_glowFrom_67 : decode cX11_glowFrom 67 = .ok (.goto 4, 3) := by decide +kernel
theorem dX11_glowFrom_70 : decode cX11_glowFrom 70 = .ok (.iconst 0, 1) := by decide +kernel
theorem dX11_glowFrom_71 : decode cX11_glowFrom 71 = .ok (.iadd, 1) := by decide +kernel
theorem dX11_glowFrom_72 : decode cX11_glowFrom 72 = .ok (.istore_n 3, 1) := by decide +kernel
theorem dX11_glowFrom_73 : decode cX11_glowFrom 73 = .ok (.iinc 4 1, 3) := by decide +kernel
theorem dX11_glowFrom_76 : decode cX11_glowFrom 76 = .ok (.goto (-37), 3) := by decide +kernel
theorem dX11_glowFrom_79 : decode cX11_glowFrom 79 = .ok (.iload_n 3, 1) := by decide +kernel
theorem dX11_glowFrom_80 : decode cX11_glowFrom 80 = .ok (.ireturn, 1) := by decide +kernel
theorem dX11_ground_0 : decode cX11_ground 0 = .ok (.aload_n 0, 1) := by decide +kernel
theorem dX11_ground_1 : decode cX11_ground 1 = .ok (.iload_n 1, 1) := by decide +kernel
theorem dX11_ground_2 : decode cX11_ground 2 = .ok (.invokestatic 124, 3) := by decide +kernel
theorem dX11_ground_5 : decode cX11_ground 5 = .ok (.ifCond .eq 7, 3) := by decide +kernel
theorem dX11_ground_8 : decode cX11_ground 8 = .ok (.iconst 0, 1) := by decide +kernel
theorem dX11_ground_9 : decode cX11_ground 9 = .ok (.goto 4, 3) := by decide +kernel
theorem dX11_ground_12 : decode cX11_ground 12 = .ok (.iconst 1, 1) := by decide +kernel
theorem dX11_ground_13 : decode cX11_ground 13 = .ok (.invokevirtual 128, 3) := by decide +kernel
theorem dX11_ground_16 : decode cX11_ground 16 = .ok (.ifCond .eq 7, 3) := by decide +kernel
theorem dX11_ground_19 : decode cX11_ground 19 = .ok (.iconst 0, 1) := by decide +kernel
theorem dX11_ground_20 : decode cX11_ground 20 = .ok (.goto 8, 3) := by decide +kernel
theorem dX11_ground_23 : decode cX11_ground 23 = .ok (.aload_n 0, 1) := by decide +kernel
theorem dX11_ground_24 : decode cX11_ground 24 = .ok (.iload_n 1, 1) := by decide +kernel
theorem dX11_ground_25 : decode cX11_ground 25 = .ok (.invokevirtual 206, 3) := by decide +kernel
theorem dX11_ground_28 : decode cX11_ground 28 = .ok (.ireturn, 1) := by decide +kernel
theorem dX11_way_0 : decode cX11_way 0 = .ok (.iload_n 1, 1) := by decide +kernel
theorem dX11_way_1 : decode cX11_way 1 = .ok (.invokestatic 124, 3) := by decide +kernel
theorem dX11_way_4 : decode cX11_way 4 = .ok (.ifCond .eq 14, 3) := by decide +kernel
theorem dX11_way_7 : decode cX11_way 7 = .ok (.iload_n 2, 1) := by decide +kernel
theorem dX11_way_8 : decode cX11_way 8 = .ok (.invokestatic 124, 3) := by decide +kernel
theorem dX11_way_11 : decode cX11_way 11 = .ok (.ifCond .eq 7, 3) := by decide +kernel
theorem dX11_way_14 : decode cX11_way 14 = .ok (.iconst 1, 1) := by decide +kernel
theorem dX11_way_15 : decode cX11_way 15 = .ok (.goto 4, 3) := by decide +kernel
theorem dX11_way_18 : decode cX11_way 18 = .ok (.iconst 0, 1) := by decide +kernel
theorem dX11_way_19 : decode cX11_way 19 = .ok (.istore 4, 2) := by decide +kernel
theorem dX11_way_21 : decode cX11_way 21 = .ok (.aload_n 0, 1) := by decide +kernel
theorem dX11_way_22 : decode cX11_way 22 = .ok (.iload 4, 2) := by decide +kernel
theorem dX11_way_24 : decode cX11_way 24 = .ok (.ifCond .ne 7, 3) := by decide +kernel
theorem dX11_way_27 : decode cX11_way 27 = .ok (.iconst 1, 1) := by decide +kernel
theorem dX11_way_28 : decode cX11_way 28 = .ok (.goto 18, 3) := by decide +kernel
theorem dX11_way_31 : decode cX11_way 31 = .ok (.iload_n 3, 1) := by decide +kernel
theorem dX11_way_32 : decode cX11_way 32 = .ok (.iconst 0, 1) := by decide +kernel
theorem dX11_way_33 : decode cX11_way 33 = .ok (.ldc 186, 2) := by decide +kernel
theorem dX11_way_35 : decode cX11_way 35 = .ok (.invokestatic 111, 3) := by decide +kernel
theorem dX11_way_38 : decode cX11_way 38 = .ok (.ifCond .eq 7, 3) := by decide +kernel
theorem dX11_way_41 : decode cX11_way 41 = .ok (.iconst 0, 1) := by decide +kernel
theorem dX11_way_42 : decode cX11_way 42 = .ok (.goto 4, 3) := by decide +kernel
theorem dX11_way_45 : decode cX11_way 45 = .ok (.iconst 2, 1) := by decide +kernel
theorem dX11_way_46 : decode cX11_way 46 = .ok (.invokevirtual 128, 3) := by decide +kernel
theorem dX11_way_49 : decode cX11_way 49 = .ok (.ifCond .eq 5, 3) := by decide +kernel
theorem dX11_way_52 : decode cX11_way 52 = .ok (.iconst 0, 1) := by decide +kernel
theorem dX11_way_53 : decode cX11_way 53 = .ok (.ireturn, 1) := by decide +kernel
theorem dX11_way_54 : decode cX11_way 54 = .ok (.iconst 0, 1) := by decide +kernel
theorem dX11_way_55 : decode cX11_way 55 = .ok (.istore 5, 2) := by decide +kernel
theorem dX11_way_57 : decode cX11_way 57 = .ok (.iload 5, 2) := by decide +kernel
theorem dX11_way_59 : decode cX11_way 59 = .ok (.bipush 64, 2) := by decide +kernel
theorem dX11_way_61 : decode cX11_way 61 = .ok (.if_icmp .ge 42, 3) := by decide +kernel
theorem dX11_way_64 : decode cX11_way 64 = .ok (.aload_n 0, 1) := by decide +kernel
theorem dX11_way_65 : decode cX11_way 65 = .ok (.getfield 104, 3) := by decide +kernel
theorem dX11_way_68 : decode cX11_way 68 = .ok (.iload 5, 2) := by decide +kernel
theorem dX11_way_70 : decode cX11_way 70 = .ok (.aload_n 0, 1) := by decide +kernel
theorem dX11_way_71 : decode cX11_way 71 = .ok (.iload 5, 2) := by decide +kernel
theorem dX11_way_73 : decode cX11_way 73 = .ok (.invokevirtual 206, 3) := by decide +kernel
theorem dX11_way_76 : decode cX11_way 76 = .ok (.iload_n 3, 1) := by decide +kernel
theorem dX11_way_77 : decode cX11_way 77 = .ok (.if_icmp .le 8, 3) := by decide +kernel
theorem dX11_way_80 : decode cX11_way 80 = .ok (.bipush (-2), 2) := by decide +kernel
theorem dX11_way_82 : decode cX11_way 82 = .ok (.goto 14, 3) := by decide +kernel
theorem dX11_way_85 : decode cX11_way 85 = .ok (.iload 5, 2) := by decide +kernel
theorem dX11_way_87 : decode cX11_way 87 = .ok (.iload_n 1, 1) := by decide +kernel
theorem dX11_way_88 : decode cX11_way 88 = .ok (.if_icmp .ne 7, 3) := by decide +kernel
theorem dX11_way_91 : decode cX11_way 91 = .ok (.iconst 0, 1) := by decide +kernel
theorem dX11_way_92 : decode cX11_way 92 = .ok (.goto 4, 3) := by decide +kernel
theorem dX11_way_95 : decode cX11_way 95 = .ok (.iconst (-1), 1) := by decide +kernel
theorem dX11_way_96 : decode cX11_way 96 = .ok (.iastore, 1) := by decide +kernel
theorem dX11_way_97 : decode cX11_way 97 = .ok (.iinc 5 1, 3) := by decide +kernel
theorem dX11_way_100 : decode cX11_way 100 = .ok (.goto (-43), 3) := by decide +kernel
theorem dX11_way_103 : decode cX11_way 103 = .ok (.iconst 0, 1) := by decide +kernel
theorem dX11_way_104 : decode cX11_way 104 = .ok (.istore 5, 2) := by decide +kernel
theorem dX11_way_106 : decode cX11_way 106 = .ok (.iload 5, 2) := by decide +kernel
theorem dX11_way_108 : decode cX11_way 108 = .ok (.bipush 64, 2) := by decide +kernel
theorem dX11_way_110 : decode cX11_way 110 = .ok (.if_icmp .ge 159, 3) := by decide +kernel
theorem dX11_way_113 : decode cX11_way 113 = .ok (.iconst 0, 1) := by decide +kernel
theorem dX11_way_114 : decode cX11_way 114 = .ok (.istore 6, 2) := by decide +kernel
theorem dX11_way_116 : decode cX11_way 116 = .ok (.iload 6, 2) := by decide +kernel
theorem dX11_way_118 : decode cX11_way 118 = .ok (.bipush 64, 2) := by decide +kernel
theorem dX11_way_120 : decode cX11_way 120 = .ok (.if_icmp .ge 143, 3) := by decide +kernel
theorem dX11_way_123 : decode cX11_way 123 = .ok (.iload 6, 2) := by decide +kernel
theorem dX11_way_125 : decode cX11_way 125 = .ok (.bipush 8, 2) := by decide +kernel
theorem dX11_way_127 : decode cX11_way 127 = .ok (.irem, 1) := by decide +kernel
theorem dX11_way_128 : decode cX11_way 128 = .ok (.ifCond .le 17, 3) := by decide +kernel
theorem dX11_way_131 : decode cX11_way 131 = .ok (.aload_n 0, 1) := by decide +kernel
theorem dX11_way_132 : decode cX11_way 132 = .ok (.getfield 104, 3) := by decide +kernel
theorem dX11_way_135 : decode cX11_way 135 = .ok (.iload 6, 2) := by decide +kernel
theorem dX11_way_137 : decode cX11_way 137 = .ok (.iconst 1, 1) := by decide +kernel
theorem dX11_way_138 : decode cX11_way 138 = .ok (.isub, 1) := by decide +kernel
theorem dX11_way_139 : decode cX11_way 139 = .ok (.iaload, 1) := by decide +kernel
theorem dX11_way_140 : decode cX11_way 140 = .ok (.iload 5, 2) := by decide +kernel
theorem dX11_way_142 : decode cX11_way 142 = .ok (.if_icmp .eq 71, 3) := by decide +kernel
theorem dX11_way_145 : decode cX11_way 145 = .ok (.iload 6, 2) := by decide +kernel
theorem dX11_way_147 : decode cX11_way 147 = .ok (.bipush 8, 2) := by decide +kernel
theorem dX11_way_149 : decode cX11_way 149 = .ok (.irem, 1) := by decide +kernel
theorem dX11_way_150 : decode cX11_way 150 = .ok (.bipush 7, 2) := by decide +kernel
theorem dX11_way_152 : decode cX11_way 152 = .ok (.if_icmp .ge 17, 3) := by decide +kernel
theorem dX11_way_155 : decode cX11_way 155 = .ok (.aload_n 0, 1) := by decide +kernel
theorem dX11_way_156 : decode cX11_way 156 = .ok (.getfield 104, 3) := by decide +kernel
theorem dX11_way_159 : decode cX11_way 159 = .ok (.iload 6, 2) := by decide +kernel
theorem dX11_way_161 : decode cX11_way 161 = .ok (.iconst 1, 1) := by decide +kernel
theorem dX11_way_162 : decode cX11_way 162 = .ok (.iadd, 1) := by decide +kernel
theorem dX11_way_163 : decode cX11_way 163 = .ok (.iaload, 1) := by decide +kernel
theorem dX11_way_164 : decode cX11_way 164 = .ok (.iload 5, 2) := by decide +kernel
theorem dX11_way_166 : decode cX11_way 166 = .ok (.if_icmp .eq 47, 3) := by decide +kernel
theorem dX11_way_169 : decode cX11_way 169 = .ok (.iload 6, 2) := by decide +kernel
theorem dX11_way_171 : decode cX11_way 171 = .ok (.bipush 7, 2) := by decide +kernel
theorem dX11_way_173 : decode cX11_way 173 = .ok (.if_icmp .le 18, 3) := by decide +kernel
theorem dX11_way_176 : decode cX11_way 176 = .ok (.aload_n 0, 1) := by decide +kernel
theorem dX11_way_177 : decode cX11_way 177 = .ok (.getfield 104, 3) := by decide +kernel
theorem dX11_way_180 : decode cX11_way 180 = .ok (.iload 6, 2) := by decide +kernel
theorem dX11_way_182 : decode cX11_way 182 = .ok (.bipush 8, 2) := by decide +kernel
theorem dX11_way_184 : decode cX11_way 184 = .ok (.isub, 1) := by decide +kernel
theorem dX11_way_185 : decode cX11_way 185 = .ok (.iaload, 1) := by decide +kernel
theorem dX11_way_186 : decode cX11_way 186 = .ok (.iload 5, 2) := by decide +kernel
theorem dX11_way_188 : decode cX11_way 188 = .ok (.if_icmp .eq 25, 3) := by decide +kernel
theorem dX11_way_191 : decode cX11_way 191 = .ok (.iload 6, 2) := by decide +kernel
theorem dX11_way_193 : decode cX11_way 193 = .ok (.bipush 56, 2) := by decide +kernel
theorem dX11_way_195 : decode cX11_way 195 = .ok (.if_icmp .ge 22, 3) := by decide +kernel
theorem dX11_way_198 : decode cX11_way 198 = .ok (.aload_n 0, 1) := by decide +kernel
theorem dX11_way_199 : decode cX11_way 199 = .ok (.getfield 104, 3) := by decide +kernel
theorem dX11_way_202 : decode cX11_way 202 = .ok (.iload 6, 2) := by decide +kernel
theorem dX11_way_204 : decode cX11_way 204 = .ok (.bipush 8, 2) := by decide +kernel
theorem dX11_way_206 : decode cX11_way 206 = .ok (.iadd, 1) := by decide +kernel
theorem dX11_way_207 : decode cX11_way 207 = .ok (.iaload, 1) := by decide +kernel
theorem dX11_way_208 : decode cX11_way 208 = .ok (.iload 5, 2) := by decide +kernel
theorem dX11_way_210 : decode cX11_way 210 = .ok (.if_icmp .ne 7, 3) := by decide +kernel
theorem dX11_way_213 : decode cX11_way 213 = .ok (.iconst 1, 1) := by decide +kernel
theorem dX11_way_214 : decode cX11_way 214 = .ok (.goto 4, 3) := by decide +kernel
theorem dX11_way_217 : decode cX11_way 217 = .ok (.iconst 0, 1) := by decide +kernel
theorem dX11_way_218 : decode cX11_way 218 = .ok (.istore 7, 2) := by decide +kernel
theorem dX11_way_220 : decode cX11_way 220 = .ok (.aload_n 0, 1) := by decide +kernel
theorem dX11_way_221 : decode cX11_way 221 = .ok (.getfield 104, 3) := by decide +kernel
theorem dX11_way_224 : decode cX11_way 224 = .ok (.iload 6, 2) := by decide +kernel
theorem dX11_way_226 : decode cX11_way 226 = .ok (.aload_n 0, 1) := by decide +kernel
theorem dX11_way_227 : decode cX11_way 227 = .ok (.getfield 104, 3) := by decide +kernel
theorem dX11_way_230 : decode cX11_way 230 = .ok (.iload 6, 2) := by decide +kernel
theorem dX11_way_232 : decode cX11_way 232 = .ok (.iaload, 1) := by decide +kernel
theorem dX11_way_233 : decode cX11_way 233 = .ok (.iconst (-1), 1) := by decide +kernel
theorem dX11_way_234 : decode cX11_way 234 = .ok (.if_icmp .ne 15, 3) := by decide +kernel
theorem dX11_way_237 : decode cX11_way 237 = .ok (.iload 7, 2) := by decide +kernel
theorem dX11_way_239 : decode cX11_way 239 = .ok (.ifCond .eq 10, 3) := by decide +kernel
theorem dX11_way_242 : decode cX11_way 242 = .ok (.iload 5, 2) := by decide +kernel
theorem dX11_way_244 : decode cX11_way 244 = .ok (.iconst 1, 1) := by decide +kernel
theorem dX11_way_245 : decode cX11_way 245 = .ok (.iadd, 1) := by decide +kernel
theorem dX11_way_246 : decode cX11_way 246 = .ok (.goto 10, 3) := by decide +kernel
theorem dX11_way_249 : decode cX11_way 249 = .ok (.aload_n 0, 1) := by decide +kernel
theorem dX11_way_250 : decode cX11_way 250 = .ok (.getfield 104, 3) := by decide +kernel
theorem dX11_way_253 : decode cX11_way 253 = .ok (.iload 6, 2) := by decide +kernel
theorem dX11_way_255 : decode cX11_way 255 = .ok (.iaload, 1) := by decide +kernel
theorem dX11_way_256 : decode cX11_way 256 = .ok (.iastore, 1) := by decide +kernel
theorem dX11_way_257 : decode cX11_way 257 = .ok (.iinc 6 1, 3) := by decide +kernel
theorem dX11_way_260 : decode cX11_way 260 = .ok (.goto (-144), 3) := by decide +kernel
theorem dX11_way_263 : decode cX11_way 263 = .ok (.iinc 5 1, 3) := by decide +kernel
theorem dX11_way_266 : decode cX11_way 266 = .ok (.goto (-160), 3) := by decide +kernel
theorem dX11_way_269 : decode cX11_way 269 = .ok (.aload_n 0, 1) := by decide +kernel
theorem dX11_way_270 : decode cX11_way 270 = .ok (.getfield 104, 3) := by decide +kernel
theorem dX11_way_273 : decode cX11_way 273 = .ok (.iload_n 2, 1) := by decide +kernel
theorem dX11_way_274 : decode cX11_way 274 = .ok (.iaload, 1) := by decide +kernel
theorem dX11_way_275 : decode cX11_way 275 = .ok (.ifCond .ge 7, 3) := by decide +kernel
theorem dX11_way_278 : decode cX11_way 278 = .ok (.iconst (-1), 1) := by decide +kernel
theorem dX11_way_279 : decode cX11_way 279 = .ok (.goto 9, 3) := by decide +kernel
theorem dX11_way_282 : decode cX11_way 282 = .ok (.aload_n 0, 1) := by decide +kernel
theorem dX11_way_283 : decode cX11_way 283 = .ok (.getfield 104, 3) := by decide +kernel
theorem dX11_way_286 : decode cX11_way 286 = .ok (.iload_n 2, 1) := by decide +kernel
theorem dX11_way_287 : decode cX11_way 287 = .ok (.iaload, 1) := by decide +kernel
theorem dX11_way_288 : decode cX11_way 288 = .ok (.ireturn, 1) := by decide +kernel
theorem dX11_ofReading_0 : decode cX11_ofReading 0 = .ok (.aload_n 0, 1) := by decide +kernel
theorem dX11_ofReading_1 : decode cX11_ofReading 1 = .ok (.iload_n 1, 1) := by decide +kernel
theorem dX11_ofReading_2 : decode cX11_ofReading 2 = .ok (.invokevirtual 177, 3) := by decide +kernel
theorem dX11_ofReading_5 : decode cX11_ofReading 5 = .ok (.ifCond .eq 23, 3) := by decide +kernel
theorem dX11_ofReading_8 : decode cX11_ofReading 8 = .ok (.iload_n 2, 1) := by decide +kernel
theorem dX11_ofReading_9 : decode cX11_ofReading 9 = .ok (.iconst 0, 1) := by decide +kernel
theorem dX11_ofReading_10 : decode cX11_ofReading 10 = .ok (.aload_n 0, 1) := by decide +kernel
theorem dX11_ofReading_11 : decode cX11_ofReading 11 = .ok (.getfield 89, 3) := by decide +kernel
theorem dX11_ofReading_14 : decode cX11_ofReading 14 = .ok (.iload_n 1, 1) := by decide +kernel
theorem dX11_ofReading_15 : decode cX11_ofReading 15 = .ok (.iaload, 1) := by decide +kernel
theorem dX11_ofReading_16 : decode cX11_ofReading 16 = .ok (.iconst 1, 1) := by decide +kernel
theorem dX11_ofReading_17 : decode cX11_ofReading 17 = .ok (.isub, 1) := by decide +kernel
theorem dX11_ofReading_18 : decode cX11_ofReading 18 = .ok (.invokestatic 111, 3) := by decide +kernel
theorem dX11_ofReading_21 : decode cX11_ofReading 21 = .ok (.ifCond .eq 7, 3) := by decide +kernel
theorem dX11_ofReading_24 : decode cX11_ofReading 24 = .ok (.iconst 1, 1) := by decide +kernel
theorem dX11_ofReading_25 : decode cX11_ofReading 25 = .ok (.goto 4, 3) := by decide +kernel
theorem dX11_ofReading_28 : decode cX11_ofReading 28 = .ok (.iconst 0, 1) := by decide +kernel
theorem dX11_ofReading_29 : decode cX11_ofReading 29 = .ok (.istore 4, 2) := by decide +kernel
theorem dX11_ofReading_31 : decode cX11_ofReading 31 = .ok (.aload_n 0, 1) := by decide +kernel
theorem dX11_ofReading_32 : decode cX11_ofReading 32 = .ok (.iload 4, 2) := by decide +kernel
theorem dX11_ofReading_34 : decode cX11_ofReading 34 = .ok (.ifCond .ne 7, 3) := by decide +kernel
theorem dX11_ofReading_37 : decode cX11_ofReading 37 = .ok (.iconst 1, 1) := by decide +kernel
theorem dX11_ofReading_38 : decode cX11_ofReading 38 = .ok (.goto 17, 3) := by decide +kernel
theorem dX11_ofReading_41 : decode cX11_ofReading 41 = .ok (.iload_n 3, 1) := by decide +kernel
theorem dX11_ofReading_42 : decode cX11_ofReading 42 = .ok (.iconst 0, 1) := by decide +kernel
theorem dX11_ofReading_43 : decode cX11_ofReading 43 = .ok (.iconst 2, 1) := by decide +kernel
theorem dX11_ofReading_44 : decode cX11_ofReading 44 = .ok (.invokestatic 111, 3) := by decide +kernel
theorem dX11_ofReading_47 : decode cX11_ofReading 47 = .ok (.ifCond .eq 7, 3) := by decide +kernel
theorem dX11_ofReading_50 : decode cX11_ofReading 50 = .ok (.iconst 0, 1) := by decide +kernel
theorem dX11_ofReading_51 : decode cX11_ofReading 51 = .ok (.goto 4, 3) := by decide +kernel
theorem dX11_ofReading_54 : decode cX11_ofReading 54 = .ok (.iconst 2, 1) := by decide +kernel
theorem dX11_ofReading_55 : decode cX11_ofReading 55 = .ok (.invokevirtual 128, 3) := by decide +kernel
theorem dX11_ofReading_58 : decode cX11_ofReading 58 = .ok (.ifCond .eq 5, 3) := by decide +kernel
theorem dX11_ofReading_61 : decode cX11_ofReading 61 = .ok (.iconst 0, 1) := by decide +kernel
theorem dX11_ofReading_62 : decode cX11_ofReading 62 = .ok (.ireturn, 1) := by decide +kernel
theorem dX11_ofReading_63 : decode cX11_ofReading 63 = .ok (.iload_n 3, 1) := by decide +kernel
theorem dX11_ofReading_64 : decode cX11_ofReading 64 = .ok (.ifCond .ne 17, 3) := by decide +kernel
theorem dX11_ofReading_67 : decode cX11_ofReading 67 = .ok (.aload_n 0, 1) := by decide +kernel
theorem dX11_ofReading_68 : decode cX11_ofReading 68 = .ok (.getfield 92, 3) := by decide +kernel
theorem dX11_ofReading_71 : decode cX11_ofReading 71 = .ok (.bipush 10, 2) := by decide +kernel
theorem dX11_ofReading_73 : decode cX11_ofReading 73 = .ok (.iload_n 1, 1) := by decide +kernel
theorem dX11_ofReading_74 : decode cX11_ofReading 74 = .ok (.imul, 1) := by decide +kernel
theorem dX11_ofReading_75 : decode cX11_ofReading 75 = .ok (.iload_n 2, 1) := by decide +kernel
theorem dX11_ofReading_76 : decode cX11_ofReading 76 = .ok (.iadd, 1) := by decide +kernel
theorem dX11_ofReading_77 : decode cX11_ofReading 77 = .ok (.iaload, 1) := by decide +kernel
theorem dX11_ofReading_78 : decode cX11_ofReading 78 = .ok (.goto 28, 3) := by decide +kernel
theorem dX11_ofReading_81 : decode cX11_ofReading 81 = .ok (.iload_n 3, 1) := by decide +kernel
theorem dX11_ofReading_82 : decode cX11_ofReading 82 = .ok (.iconst 1, 1) := by decide +kernel
theorem dX11_ofReading_83 : decode cX11_ofReading 83 = .ok (.if_icmp .ne 17, 3) := by decide +kernel
theorem dX11_ofReading_86 : decode cX11_ofReading 86 = .ok (.aload_n 0, 1) := by decide +kernel
theorem dX11_ofReading_87 : decode cX11_ofReading 87 = .ok (.getfield 95, 3) := by decide +kernel
theorem dX11_ofReading_90 : decode cX11_ofReading 90 = .ok (.bipush 10, 2) := by decide +kernel
theorem dX11_ofReading_92 : decode cX11_ofReading 92 = .ok (.iload_n 1, 1) := by decide +kernel
theorem dX11_ofReading_93 : decode cX11_ofReading 93 = .ok (.imul, 1) := by decide +kernel
theorem dX11_ofReading_94 : decode cX11_ofReading 94 = .ok (.iload_n 2, 1) := by decide +kernel
theorem dX11_ofReading_95 : decode cX11_ofReading 95 = .ok (.iadd, 1) := by decide +kernel
theorem dX11_ofReading_96 : decode cX11_ofReading 96 = .ok (.iaload, 1) := by decide +kernel
theorem dX11_ofReading_97 : decode cX11_ofReading 97 = .ok (.goto 9, 3) := by decide +kernel
theorem dX11_ofReading_100 : decode cX11_ofReading 100 = .ok (.aload_n 0, 1) := by decide +kernel
theorem dX11_ofReading_101 : decode cX11_ofReading 101 = .ok (.iload_n 1, 1) := by decide +kernel
theorem dX11_ofReading_102 : decode cX11_ofReading 102 = .ok (.iload_n 2, 1) := by decide +kernel
theorem dX11_ofReading_103 : decode cX11_ofReading 103 = .ok (.invokevirtual 187, 3) := by decide +kernel
theorem dX11_ofReading_106 : decode cX11_ofReading 106 = .ok (.ireturn, 1) := by decide +kernel
theorem dX11_trend_0 : decode cX11_trend 0 = .ok (.aload_n 0, 1) := by decide +kernel
theorem dX11_trend_1 : decode cX11_trend 1 = .ok (.iload_n 1, 1) := by decide +kernel
theorem dX11_trend_2 : decode cX11_trend 2 = .ok (.invokevirtual 177, 3) := by decide +kernel
theorem dX11_trend_5 : decode cX11_trend 5 = .ok (.ifCond .eq 13, 3) := by decide +kernel
theorem dX11_trend_8 : decode cX11_trend 8 = .ok (.aload_n 0, 1) := by decide +kernel
theorem dX11_trend_9 : decode cX11_trend 9 = .ok (.getfield 89, 3) := by decide +kernel
theorem dX11_trend_12 : decode cX11_trend 12 = .ok (.iload_n 1, 1) := by decide +kernel
theorem dX11_trend_13 : decode cX11_trend 13 = .ok (.iaload, 1) := by decide +kernel
theorem dX11_trend_14 : decode cX11_trend 14 = .ok (.i2l, 1) := by decide +kernel
theorem dX11_trend_15 : decode cX11_trend 15 = .ok (.goto 4, 3) := by decide +kernel
theorem dX11_trend_18 : decode cX11_trend 18 = .ok (.lconst 0, 1) := by decide +kernel
theorem dX11_trend_19 : decode cX11_trend 19 = .ok (.lstore_n 2, 1) := by decide +kernel
theorem dX11_trend_20 : decode cX11_trend 20 = .ok (.lconst 0, 1) := by decide +kernel
theorem dX11_trend_21 : decode cX11_trend 21 = .ok (.lstore 4, 2) := by decide +kernel
theorem dX11_trend_23 : decode cX11_trend 23 = .ok (.lconst 0, 1) := by decide +kernel
theorem dX11_trend_24 : decode cX11_trend 24 = .ok (.lstore 6, 2) := by decide +kernel
theorem dX11_trend_26 : decode cX11_trend 26 = .ok (.lconst 0, 1) := by decide +kernel
theorem dX11_trend_27 : decode cX11_trend 27 = .ok (.lstore 8, 2) := by decide +kernel
theorem dX11_trend_29 : decode cX11_trend 29 = .ok (.lconst 0, 1) := by decide +kernel
theorem dX11_trend_30 : decode cX11_trend 30 = .ok (.lstore 10, 2) := by decide +kernel
theorem dX11_trend_32 : decode cX11_trend 32 = .ok (.iconst 0, 1) := by decide +kernel
theorem dX11_trend_33 : decode cX11_trend 33 = .ok (.istore 12, 2) := by decide +kernel
theorem dX11_trend_35 : decode cX11_trend 35 = .ok (.iload 12, 2) := by decide +kernel
theorem dX11_trend_37 : decode cX11_trend 37 = .ok (.i2l, 1) := by decide +kernel
theorem dX11_trend_38 : decode cX11_trend 38 = .ok (.lload_n 2, 1) := by decide +kernel
theorem dX11_trend_39 : decode cX11_trend 39 = .ok (.lcmp, 1) := by decide +kernel
theorem dX11_trend_40 : decode cX11_trend 40 = .ok (.ifCond .ge 70, 3) := by decide +kernel
theorem dX11_trend_43 : decode cX11_trend 43 = .ok (.aload_n 0, 1) := by decide +kernel
theorem dX11_trend_44 : decode cX11_trend 44 = .ok (.getfield 92, 3) := by decide +kernel
theorem dX11_trend_47 : decode cX11_trend 47 = .ok (.bipush 10, 2) := by decide +kernel
theorem dX11_trend_49 : decode cX11_trend 49 = .ok (.iload_n 1, 1) := by decide +kernel
theorem dX11_trend_50 : decode cX11_trend 50 = .ok (.imul, 1) := by decide +kernel
theorem dX11_trend_51 : decode cX11_trend 51 = .ok (.iload 12, 2) := by decide +kernel
theorem dX11_trend_53 : decode cX11_trend 53 = .ok (.iadd, 1) := by decide +kernel
theorem dX11_trend_54 : decode cX11_trend 54 = .ok (.iaload, 1) := by decide +kernel
theorem dX11_trend_55 : decode cX11_trend 55 = .ok (.i2l, 1) := by decide +kernel
theorem dX11_trend_56 : decode cX11_trend 56 = .ok (.lstore 13, 2) := by decide +kernel
theorem dX11_trend_58 : decode cX11_trend 58 = .ok (.lload 4, 2) := by decide +kernel
theorem dX11_trend_60 : decode cX11_trend 60 = .ok (.lload 13, 2) := by decide +kernel
theorem dX11_trend_62 : decode cX11_trend 62 = .ok (.ladd, 1) := by decide +kernel
theorem dX11_trend_63 : decode cX11_trend 63 = .ok (.lstore 4, 2) := by decide +kernel
theorem dX11_trend_65 : decode cX11_trend 65 = .ok (.lload 6, 2) := by decide +kernel
theorem dX11_trend_67 : decode cX11_trend 67 = .ok (.aload_n 0, 1) := by decide +kernel
theorem dX11_trend_68 : decode cX11_trend 68 = .ok (.iload_n 1, 1) := by decide +kernel
theorem dX11_trend_69 : decode cX11_trend 69 = .ok (.iload 12, 2) := by decide +kernel
theorem dX11_trend_71 : decode cX11_trend 71 = .ok (.invokevirtual 187, 3) := by decide +kernel
theorem dX11_trend_74 : decode cX11_trend 74 = .ok (.i2l, 1) := by decide +kernel
theorem dX11_trend_75 : decode cX11_trend 75 = .ok (.ladd, 1) := by decide +kernel
theorem dX11_trend_76 : decode cX11_trend 76 = .ok (.lstore 6, 2) := by decide +kernel
theorem dX11_trend_78 : decode cX11_trend 78 = .ok (.lload 8, 2) := by decide +kernel
theorem dX11_trend_80 : decode cX11_trend 80 = .ok (.lload 13, 2) := by decide +kernel
theorem dX11_trend_82 : decode cX11_trend 82 = .ok (.aload_n 0, 1) := by decide +kernel
theorem dX11_trend_83 : decode cX11_trend 83 = .ok (.iload_n 1, 1) := by decide +kernel
theorem dX11_trend_84 : decode cX11_trend 84 = .ok (.iload 12, 2) := by decide +kernel
theorem dX11_trend_86 : decode cX11_trend 86 = .ok (.invokevirtual 187, 3) := by decide +kernel
theorem dX11_trend_89 : decode cX11_trend 89 = .ok (.i2l, 1) := by decide +kernel
theorem dX11_trend_90 : decode cX11_trend 90 = .ok (.lmul, 1) := by decide +kernel
theorem dX11_trend_91 : decode cX11_trend 91 = .ok (.ladd, 1) := by decide +kernel
theorem dX11_trend_92 : decode cX11_trend 92 = .ok (.lstore 8, 2) := by decide +kernel
theorem dX11_trend_94 : decode cX11_trend 94 = .ok (.lload 10, 2) := by decide +kernel
theorem dX11_trend_96 : decode cX11_trend 96 = .ok (.lload 13, 2) := by decide +kernel
theorem dX11_trend_98 : decode cX11_trend 98 = .ok (.lload 13, 2) := by decide +kernel
theorem dX11_trend_100 : decode cX11_trend 100 = .ok (.lmul, 1) := by decide +kernel
theorem dX11_trend_101 : decode cX11_trend 101 = .ok (.ladd, 1) := by decide +kernel
theorem dX11_trend_102 : decode cX11_trend 102 = .ok (.lstore 10, 2) := by decide +kernel
theorem dX11_trend_104 : decode cX11_trend 104 = .ok (.iinc 12 1, 3) := by decide +kernel
theorem dX11_trend_107 : decode cX11_trend 107 = .ok (.goto (-72), 3) := by decide +kernel
theorem dX11_trend_110 : decode cX11_trend 110 = .ok (.lload_n 2, 1) := by decide +kernel
theorem dX11_trend_111 : decode cX11_trend 111 = .ok (.lload 10, 2) := by decide +kernel
theorem dX11_trend_113 : decode cX11_trend 113 = .ok (.lmul, 1) := by decide +kernel
theorem dX11_trend_114 : decode cX11_trend 114 = .ok (.lload 4, 2) := by decide +kernel
theorem dX11_trend_116 : decode cX11_trend 116 = .ok (.lload 4, 2) := by decide +kernel
theorem dX11_trend_118 : decode cX11_trend 118 = .ok (.lmul, 1) := by decide +kernel
theorem dX11_trend_119 : decode cX11_trend 119 = .ok (.lsub, 1) := by decide +kernel
theorem dX11_trend_120 : decode cX11_trend 120 = .ok (.lstore 12, 2) := by decide +kernel
theorem dX11_trend_122 : decode cX11_trend 122 = .ok (.aload_n 0, 1) := by decide +kernel
theorem dX11_trend_123 : decode cX11_trend 123 = .ok (.aload_n 0, 1) := by decide +kernel
theorem dX11_trend_124 : decode cX11_trend 124 = .ok (.iload_n 1, 1) := by decide +kernel
theorem dX11_trend_125 : decode cX11_trend 125 = .ok (.invokevirtual 177, 3) := by decide +kernel
theorem dX11_trend_128 : decode cX11_trend 128 = .ok (.ifCond .ne 7, 3) := by decide +kernel
theorem dX11_trend_131 : decode cX11_trend 131 = .ok (.iconst 1, 1) := by decide +kernel
theorem dX11_trend_132 : decode cX11_trend 132 = .ok (.goto 15, 3) := by decide +kernel
theorem dX11_trend_135 : decode cX11_trend 135 = .ok (.lload 12, 2) := by decide +kernel
theorem dX11_trend_137 : decode cX11_trend 137 = .ok (.lconst 0, 1) := by decide +kernel
theorem dX11_trend_138 : decode cX11_trend 138 = .ok (.lcmp, 1) := by decide +kernel
theorem dX11_trend_139 : decode cX11_trend 139 = .ok (.ifCond .ne 7, 3) := by decide +kernel
theorem dX11_trend_142 : decode cX11_trend 142 = .ok (.iconst 2, 1) := by decide +kernel
theorem dX11_trend_143 : decode cX11_trend 143 = .ok (.goto 4, 3) := by decide +kernel
theorem dX11_trend_146 : decode cX11_trend 146 = .ok (.iconst 0, 1) := by decide +kernel
theorem dX11_trend_147 : decode cX11_trend 147 = .ok (.invokevirtual 128, 3) := by decide +kernel
theorem dX11_trend_150 : decode cX11_trend 150 = .ok (.ifCond .eq 7, 3) := by decide +kernel
theorem dX11_trend_153 : decode cX11_trend 153 = .ok (.lconst 0, 1) := by decide +kernel
theorem dX11_trend_154 : decode cX11_trend 154 = .ok (.goto 20, 3) := by decide +kernel
theorem dX11_trend_157 : decode cX11_trend 157 = .ok (.ldc2_w 209, 3) := by decide +kernel
theorem dX11_trend_160 : decode cX11_trend 160 = .ok (.lload_n 2, 1) := by decide +kernel
theorem dX11_trend_161 : decode cX11_trend 161 = .ok (.lload 8, 2) := by decide +kernel
theorem dX11_trend_163 : decode cX11_trend 163 = .ok (.lmul, 1) := by decide +kernel
theorem dX11_trend_164 : decode cX11_trend 164 = .ok (.lload 4, 2) := by decide +kernel
theorem dX11_trend_166 : decode cX11_trend 166 = .ok (.lload 6, 2) := by decide +kernel
theorem dX11_trend_168 : decode cX11_trend 168 = .ok (.lmul, 1) := by decide +kernel
theorem dX11_trend_169 : decode cX11_trend 169 = .ok (.lsub, 1) := by decide +kernel
theorem dX11_trend_170 : decode cX11_trend 170 = .ok (.lmul, 1) := by decide +kernel
theorem dX11_trend_171 : decode cX11_trend 171 = .ok (.lload 12, 2) := by decide +kernel
theorem dX11_trend_173 : decode cX11_trend 173 = .ok (.ldiv, 1) := by decide +kernel
theorem dX11_trend_174 : decode cX11_trend 174 = .ok (.lreturn, 1) := by decide +kernel
theorem dX11_isHeld_0 : decode cX11_isHeld 0 = .ok (.aload_n 0, 1) := by decide +kernel
theorem dX11_isHeld_1 : decode cX11_isHeld 1 = .ok (.iconst 0, 1) := by decide +kernel
theorem dX11_isHeld_2 : decode cX11_isHeld 2 = .ok (.putfield 107, 3) := by decide +kernel
theorem dX11_isHeld_5 : decode cX11_isHeld 5 = .ok (.aload_n 0, 1) := by decide +kernel
theorem dX11_isHeld_6 : decode cX11_isHeld 6 = .ok (.getfield 196, 3) := by decide +kernel
theorem dX11_isHeld_9 : decode cX11_isHeld 9 = .ok (.ifCond .ne 7, 3) := by decide +kernel
theorem dX11_isHeld_12 : decode cX11_isHeld 12 = .ok (.iconst 1, 1) := by decide +kernel
theorem dX11_isHeld_13 : decode cX11_isHeld 13 = .ok (.goto 4, 3) := by decide +kernel
