theorem dX10_hours_15 : decode cX10_hours 15 = .ok (.iconst 0, 1) := by decide +kernel
theorem dX10_hours_16 : decode cX10_hours 16 = .ok (.bipush 23, 2) := by decide +kernel
theorem dX10_hours_18 : decode cX10_hours 18 = .ok (.invokestatic 86, 3) := by decide +kernel
theorem dX10_hours_21 : decode cX10_hours 21 = .ok (.aload 4, 2) := by decide +kernel
theorem dX10_hours_23 : decode cX10_hours 23 = .ok (.aload_n 0, 1) := by decide +kernel
theorem dX10_hours_24 : decode cX10_hours 24 = .ok (.getfield 108, 3) := by decide +kernel
theorem dX10_hours_27 : decode cX10_hours 27 = .ok (.invokevirtual 143, 3) := by decide +kernel
theorem dX10_hours_30 : decode cX10_hours 30 = .ok (.ifCond .ne 7, 3) := by decide +kernel
theorem dX10_hours_33 : decode cX10_hours 33 = .ok (.iconst 1, 1) := by decide +kernel
theorem dX10_hours_34 : decode cX10_hours 34 = .ok (.goto 4, 3) := by decide +kernel
theorem dX10_hours_37 : decode cX10_hours 37 = .ok (.iconst 0, 1) := by decide +kernel
theorem dX10_hours_38 : decode cX10_hours 38 = .ok (.invokestatic 111, 3) := by decide +kernel
theorem dX10_hours_41 : decode cX10_hours 41 = .ok (.aload 4, 2) := by decide +kernel
theorem dX10_hours_43 : decode cX10_hours 43 = .ok (.iload_n 2, 1) := by decide +kernel
theorem dX10_hours_44 : decode cX10_hours 44 = .ok (.putfield 147, 3) := by decide +kernel
theorem dX10_hours_47 : decode cX10_hours 47 = .ok (.aload 4, 2) := by decide +kernel
theorem dX10_hours_49 : decode cX10_hours 49 = .ok (.iload_n 3, 1) := by decide +kernel
theorem dX10_hours_50 : decode cX10_hours 50 = .ok (.putfield 150, 3) := by decide +kernel
theorem dX10_hours_53 : decode cX10_hours 53 = .ok (.return_, 1) := by decide +kernel
theorem dX10_exempt_0 : decode cX10_exempt 0 = .ok (.aload_n 0, 1) := by decide +kernel
theorem dX10_exempt_1 : decode cX10_exempt 1 = .ok (.iload_n 1, 1) := by decide +kernel
theorem dX10_exempt_2 : decode cX10_exempt 2 = .ok (.invokevirtual 139, 3) := by decide +kernel
theorem dX10_exempt_5 : decode cX10_exempt 5 = .ok (.astore_n 3, 1) := by decide +kernel
theorem dX10_exempt_6 : decode cX10_exempt 6 = .ok (.aload_n 3, 1) := by decide +kernel
theorem dX10_exempt_7 : decode cX10_exempt 7 = .ok (.getfield 153, 3) := by decide +kernel
theorem dX10_exempt_10 : decode cX10_exempt 10 = .ok (.istore 4, 2) := by decide +kernel
theorem dX10_exempt_12 : decode cX10_exempt 12 = .ok (.aload_n 3, 1) := by decide +kernel
theorem dX10_exempt_13 : decode cX10_exempt 13 = .ok (.iload_n 2, 1) := by decide +kernel
theorem dX10_exempt_14 : decode cX10_exempt 14 = .ok (.putfield 153, 3) := by decide +kernel
theorem dX10_exempt_17 : decode cX10_exempt 17 = .ok (.iload 4, 2) := by decide +kernel
theorem dX10_exempt_19 : decode cX10_exempt 19 = .ok (.ireturn, 1) := by decide +kernel
theorem dX10_outage_0 : decode cX10_outage 0 = .ok (.aload_n 0, 1) := by decide +kernel
theorem dX10_outage_1 : decode cX10_outage 1 = .ok (.iload_n 1, 1) := by decide +kernel
theorem dX10_outage_2 : decode cX10_outage 2 = .ok (.invokevirtual 127, 3) := by decide +kernel
theorem dX10_outage_5 : decode cX10_outage 5 = .ok (.astore_n 3, 1) := by decide +kernel
theorem dX10_outage_6 : decode cX10_outage 6 = .ok (.iload_n 2, 1) := by decide +kernel
theorem dX10_outage_7 : decode cX10_outage 7 = .ok (.iconst 0, 1) := by decide +kernel
theorem dX10_outage_8 : decode cX10_outage 8 = .ok (.sipush 500, 3) := by decide +kernel
theorem dX10_outage_11 : decode cX10_outage 11 = .ok (.invokestatic 86, 3) := by decide +kernel
theorem dX10_outage_14 : decode cX10_outage 14 = .ok (.aload_n 3, 1) := by decide +kernel
theorem dX10_outage_15 : decode cX10_outage 15 = .ok (.getfield 156, 3) := by decide +kernel
theorem dX10_outage_18 : decode cX10_outage 18 = .ok (.aload_n 0, 1) := by decide +kernel
theorem dX10_outage_19 : decode cX10_outage 19 = .ok (.getfield 108, 3) := by decide +kernel
theorem dX10_outage_22 : decode cX10_outage 22 = .ok (.isub, 1) := by decide +kernel
theorem dX10_outage_23 : decode cX10_outage 23 = .ok (.iconst 0, 1) := by decide +kernel
theorem dX10_outage_24 : decode cX10_outage 24 = .ok (.invokestatic 159, 3) := by decide +kernel
theorem dX10_outage_27 : decode cX10_outage 27 = .ok (.istore 4, 2) := by decide +kernel
theorem dX10_outage_29 : decode cX10_outage 29 = .ok (.aload_n 3, 1) := by decide +kernel
theorem dX10_outage_30 : decode cX10_outage 30 = .ok (.aload_n 0, 1) := by decide +kernel
theorem dX10_outage_31 : decode cX10_outage 31 = .ok (.getfield 108, 3) := by decide +kernel
theorem dX10_outage_34 : decode cX10_outage 34 = .ok (.iload_n 2, 1) := by decide +kernel
theorem dX10_outage_35 : decode cX10_outage 35 = .ok (.iadd, 1) := by decide +kernel
theorem dX10_outage_36 : decode cX10_outage 36 = .ok (.putfield 156, 3) := by decide +kernel
theorem dX10_outage_39 : decode cX10_outage 39 = .ok (.iload 4, 2) := by decide +kernel
theorem dX10_outage_41 : decode cX10_outage 41 = .ok (.ireturn, 1) := by decide +kernel
theorem dX10_vote_0 : decode cX10_vote 0 = .ok (.aload_n 0, 1) := by decide +kernel
theorem dX10_vote_1 : decode cX10_vote 1 = .ok (.iload_n 1, 1) := by decide +kernel
theorem dX10_vote_2 : decode cX10_vote 2 = .ok (.invokevirtual 139, 3) := by decide +kernel
theorem dX10_vote_5 : decode cX10_vote 5 = .ok (.astore 6, 2) := by decide +kernel
theorem dX10_vote_7 : decode cX10_vote 7 = .ok (.aload 6, 2) := by decide +kernel
theorem dX10_vote_9 : decode cX10_vote 9 = .ok (.getfield 165, 3) := by decide +kernel
theorem dX10_vote_12 : decode cX10_vote 12 = .ok (.astore 7, 2) := by decide +kernel
theorem dX10_vote_14 : decode cX10_vote 14 = .ok (.iload_n 2, 1) := by decide +kernel
theorem dX10_vote_15 : decode cX10_vote 15 = .ok (.aload 6, 2) := by decide +kernel
theorem dX10_vote_17 : decode cX10_vote 17 = .ok (.getfield 169, 3) := by decide +kernel
theorem dX10_vote_20 : decode cX10_vote 20 = .ok (.bipush 10, 2) := by decide +kernel
theorem dX10_vote_22 : decode cX10_vote 22 = .ok (.invokestatic 86, 3) := by decide +kernel
theorem dX10_vote_25 : decode cX10_vote 25 = .ok (.iload_n 3, 1) := by decide +kernel
theorem dX10_vote_26 : decode cX10_vote 26 = .ok (.aload 6, 2) := by decide +kernel
theorem dX10_vote_28 : decode cX10_vote 28 = .ok (.getfield 172, 3) := by decide +kernel
theorem dX10_vote_31 : decode cX10_vote 31 = .ok (.bipush 10, 2) := by decide +kernel
theorem dX10_vote_33 : decode cX10_vote 33 = .ok (.invokestatic 86, 3) := by decide +kernel
theorem dX10_vote_36 : decode cX10_vote 36 = .ok (.iload 4, 2) := by decide +kernel
theorem dX10_vote_38 : decode cX10_vote 38 = .ok (.iconst 0, 1) := by decide +kernel
theorem dX10_vote_39 : decode cX10_vote 39 = .ok (.sipush 500, 3) := by decide +kernel
theorem dX10_vote_42 : decode cX10_vote 42 = .ok (.invokestatic 86, 3) := by decide +kernel
theorem dX10_vote_45 : decode cX10_vote 45 = .ok (.iload 5, 2) := by decide +kernel
theorem dX10_vote_47 : decode cX10_vote 47 = .ok (.iconst 0, 1) := by decide +kernel
theorem dX10_vote_48 : decode cX10_vote 48 = .ok (.sipush 500, 3) := by decide +kernel
theorem dX10_vote_51 : decode cX10_vote 51 = .ok (.invokestatic 86, 3) := by decide +kernel
theorem dX10_vote_54 : decode cX10_vote 54 = .ok (.iload 4, 2) := by decide +kernel
theorem dX10_vote_56 : decode cX10_vote 56 = .ok (.iload 5, 2) := by decide +kernel
theorem dX10_vote_58 : decode cX10_vote 58 = .ok (.iadd, 1) := by decide +kernel
theorem dX10_vote_59 : decode cX10_vote 59 = .ok (.iconst 0, 1) := by decide +kernel
theorem dX10_vote_60 : decode cX10_vote 60 = .ok (.aload 7, 2) := by decide +kernel
theorem dX10_vote_62 : decode cX10_vote 62 = .ok (.getfield 175, 3) := by decide +kernel
theorem dX10_vote_65 : decode cX10_vote 65 = .ok (.invokestatic 86, 3) := by decide +kernel
theorem dX10_vote_68 : decode cX10_vote 68 = .ok (.aload 6, 2) := by decide +kernel
theorem dX10_vote_70 : decode cX10_vote 70 = .ok (.aload_n 0, 1) := by decide +kernel
theorem dX10_vote_71 : decode cX10_vote 71 = .ok (.getfield 108, 3) := by decide +kernel
theorem dX10_vote_74 : decode cX10_vote 74 = .ok (.invokevirtual 143, 3) := by decide +kernel
theorem dX10_vote_77 : decode cX10_vote 77 = .ok (.ifCond .ne 7, 3) := by decide +kernel
theorem dX10_vote_80 : decode cX10_vote 80 = .ok (.iconst 1, 1) := by decide +kernel
theorem dX10_vote_81 : decode cX10_vote 81 = .ok (.goto 4, 3) := by decide +kernel
theorem dX10_vote_84 : decode cX10_vote 84 = .ok (.iconst 0, 1) := by decide +kernel
theorem dX10_vote_85 : decode cX10_vote 85 = .ok (.invokestatic 111, 3) := by decide +kernel
theorem dX10_vote_88 : decode cX10_vote 88 = .ok (.iload_n 2, 1) := by decide +kernel
theorem dX10_vote_89 : decode cX10_vote 89 = .ok (.aload 6, 2) := by decide +kernel
theorem dX10_vote_91 : decode cX10_vote 91 = .ok (.getfield 169, 3) := by decide +kernel
theorem dX10_vote_94 : decode cX10_vote 94 = .ok (.if_icmp .gt 12, 3) := by decide +kernel
theorem dX10_vote_97 : decode cX10_vote 97 = .ok (.iload_n 3, 1) := by decide +kernel
theorem dX10_vote_98 : decode cX10_vote 98 = .ok (.aload 6, 2) := by decide +kernel
theorem dX10_vote_100 : decode cX10_vote 100 = .ok (.getfield 172, 3) := by decide +kernel
theorem dX10_vote_103 : decode cX10_vote 103 = .ok (.if_icmp .le 7, 3) := by decide +kernel
theorem dX10_vote_106 : decode cX10_vote 106 = .ok (.iconst 1, 1) := by decide +kernel
theorem dX10_vote_107 : decode cX10_vote 107 = .ok (.goto 4, 3) := by decide +kernel
theorem dX10_vote_110 : decode cX10_vote 110 = .ok (.iconst 0, 1) := by decide +kernel
theorem dX10_vote_111 : decode cX10_vote 111 = .ok (.invokestatic 111, 3) := by decide +kernel
theorem dX10_vote_114 : decode cX10_vote 114 = .ok (.aload 6, 2) := by decide +kernel
theorem dX10_vote_116 : decode cX10_vote 116 = .ok (.iload_n 2, 1) := by decide +kernel
theorem dX10_vote_117 : decode cX10_vote 117 = .ok (.iload_n 3, 1) := by decide +kernel
theorem dX10_vote_118 : decode cX10_vote 118 = .ok (.invokevirtual 178, 3) := by decide +kernel
theorem dX10_vote_121 : decode cX10_vote 121 = .ok (.istore 8, 2) := by decide +kernel
theorem dX10_vote_123 : decode cX10_vote 123 = .ok (.iload 8, 2) := by decide +kernel
theorem dX10_vote_125 : decode cX10_vote 125 = .ok (.iload 8, 2) := by decide +kernel
theorem dX10_vote_127 : decode cX10_vote 127 = .ok (.iconst 2, 1) := by decide +kernel
theorem dX10_vote_128 : decode cX10_vote 128 = .ok (.idiv, 1) := by decide +kernel
theorem dX10_vote_129 : decode cX10_vote 129 = .ok (.isub, 1) := by decide +kernel
theorem dX10_vote_130 : decode cX10_vote 130 = .ok (.istore 9, 2) := by decide +kernel
theorem dX10_vote_132 : decode cX10_vote 132 = .ok (.aload 7, 2) := by decide +kernel
theorem dX10_vote_134 : decode cX10_vote 134 = .ok (.iload 4, 2) := by decide +kernel
theorem dX10_vote_136 : decode cX10_vote 136 = .ok (.iload 5, 2) := by decide +kernel
theorem dX10_vote_138 : decode cX10_vote 138 = .ok (.invokevirtual 181, 3) := by decide +kernel
theorem dX10_vote_141 : decode cX10_vote 141 = .ok (.ifCond .eq 13, 3) := by decide +kernel
theorem dX10_vote_144 : decode cX10_vote 144 = .ok (.aload 7, 2) := by decide +kernel
theorem dX10_vote_146 : decode cX10_vote 146 = .ok (.getfield 185, 3) := by decide +kernel
theorem dX10_vote_149 : decode cX10_vote 149 = .ok (.iload 9, 2) := by decide +kernel
theorem dX10_vote_151 : decode cX10_vote 151 = .ok (.if_icmp .ge 5, 3) := by decide +kernel
theorem dX10_vote_154 : decode cX10_vote 154 = .ok (.iconst (-1), 1) := by decide +kernel
theorem dX10_vote_155 : decode cX10_vote 155 = .ok (.ireturn, 1) := by decide +kernel
theorem dX10_vote_156 : decode cX10_vote 156 = .ok (.aload 6, 2) := by decide +kernel
theorem dX10_vote_158 : decode cX10_vote 158 = .ok (.iload_n 2, 1) := by decide +kernel
theorem dX10_vote_159 : decode cX10_vote 159 = .ok (.iload_n 3, 1) := by decide +kernel
theorem dX10_vote_160 : decode cX10_vote 160 = .ok (.aload_n 0, 1) := by decide +kernel
theorem dX10_vote_161 : decode cX10_vote 161 = .ok (.getfield 108, 3) := by decide +kernel
theorem dX10_vote_164 : decode cX10_vote 164 = .ok (.invokevirtual 188, 3) := by decide +kernel
theorem dX10_vote_167 : decode cX10_vote 167 = .ok (.aload 7, 2) := by decide +kernel
theorem dX10_vote_169 : decode cX10_vote 169 = .ok (.dup, 1) := by decide +kernel
theorem dX10_vote_170 : decode cX10_vote 170 = .ok (.getfield 185, 3) := by decide +kernel
theorem dX10_vote_173 : decode cX10_vote 173 = .ok (.iload 9, 2) := by decide +kernel
theorem dX10_vote_175 : decode cX10_vote 175 = .ok (.isub, 1) := by decide +kernel
theorem dX10_vote_176 : decode cX10_vote 176 = .ok (.putfield 185, 3) := by decide +kernel
theorem dX10_vote_179 : decode cX10_vote 179 = .ok (.iload 9, 2) := by decide +kernel
theorem dX10_vote_181 : decode cX10_vote 181 = .ok (.ireturn, 1) := by decide +kernel
theorem dX10_inspect_0 : decode cX10_inspect 0 = .ok (.aload_n 0, 1) := by decide +kernel
theorem dX10_inspect_1 : decode cX10_inspect 1 = .ok (.iload_n 1, 1) := by decide +kernel
theorem dX10_inspect_2 : decode cX10_inspect 2 = .ok (.invokevirtual 74, 3) := by decide +kernel
theorem dX10_inspect_5 : decode cX10_inspect 5 = .ok (.astore_n 2, 1) := by decide +kernel
theorem dX10_inspect_6 : decode cX10_inspect 6 = .ok (.iconst 0, 1) := by decide +kernel
theorem dX10_inspect_7 : decode cX10_inspect 7 = .ok (.istore_n 3, 1) := by decide +kernel
theorem dX10_inspect_8 : decode cX10_inspect 8 = .ok (.iconst 0, 1) := by decide +kernel
theorem dX10_inspect_9 : decode cX10_inspect 9 = .ok (.istore 4, 2) := by decide +kernel
theorem dX10_inspect_11 : decode cX10_inspect 11 = .ok (.iload 4, 2) := by decide +kernel
theorem dX10_inspect_13 : decode cX10_inspect 13 = .ok (.aload_n 0, 1) := by decide +kernel
theorem dX10_inspect_14 : decode cX10_inspect 14 = .ok (.getfield 22, 3) := by decide +kernel
theorem dX10_inspect_17 : decode cX10_inspect 17 = .ok (.invokevirtual 118, 3) := by decide +kernel
theorem dX10_inspect_20 : decode cX10_inspect 20 = .ok (.if_icmp .ge 79, 3) := by decide +kernel
theorem dX10_inspect_23 : decode cX10_inspect 23 = .ok (.aload_n 0, 1) := by decide +kernel
theorem dX10_inspect_24 : decode cX10_inspect 24 = .ok (.getfield 22, 3) := by decide +kernel
theorem dX10_inspect_27 : decode cX10_inspect 27 = .ok (.iload 4, 2) := by decide +kernel
theorem dX10_inspect_29 : decode cX10_inspect 29 = .ok (.invokevirtual 191, 3) := by decide +kernel
theorem dX10_inspect_32 : decode cX10_inspect 32 = .ok (.checkcast 134, 3) := by decide +kernel
theorem dX10_inspect_35 : decode cX10_inspect 35 = .ok (.astore 5, 2) := by decide +kernel
theorem dX10_inspect_37 : decode cX10_inspect 37 = .ok (.aload 5, 2) := by decide +kernel
theorem dX10_inspect_39 : decode cX10_inspect 39 = .ok (.getfield 195, 3) := by decide +kernel
theorem dX10_inspect_42 : decode cX10_inspect 42 = .ok (.getfield 78, 3) := by decide +kernel
theorem dX10_inspect_45 : decode cX10_inspect 45 = .ok (.aload_n 2, 1) := by decide +kernel
theorem dX10_inspect_46 : decode cX10_inspect 46 = .ok (.if_acmp .ne 47, 3) := by decide +kernel
theorem dX10_inspect_49 : decode cX10_inspect 49 = .ok (.aload 5, 2) := by decide +kernel
theorem dX10_inspect_51 : decode cX10_inspect 51 = .ok (.invokevirtual 199, 3) := by decide +kernel
theorem dX10_inspect_54 : decode cX10_inspect 54 = .ok (.ifCond .eq 39, 3) := by decide +kernel
theorem dX10_inspect_57 : decode cX10_inspect 57 = .ok (.aload_n 0, 1) := by decide +kernel
theorem dX10_inspect_58 : decode cX10_inspect 58 = .ok (.getfield 108, 3) := by decide +kernel
theorem dX10_inspect_61 : decode cX10_inspect 61 = .ok (.aload 5, 2) := by decide +kernel
theorem dX10_inspect_63 : decode cX10_inspect 63 = .ok (.getfield 203, 3) := by decide +kernel
theorem dX10_inspect_66 : decode cX10_inspect 66 = .ok (.if_icmp .lt 27, 3) := by decide +kernel
theorem dX10_inspect_69 : decode cX10_inspect 69 = .ok (.aload 5, 2) := by decide +kernel
theorem dX10_inspect_71 : decode cX10_inspect 71 = .ok (.aload_n 0, 1) := by decide +kernel
theorem dX10_inspect_72 : decode cX10_inspect 72 = .ok (.getfield 108, 3) := by decide +kernel
theorem dX10_inspect_75 : decode cX10_inspect 75 = .ok (.sipush 720, 3) := by decide +kernel
theorem dX10_inspect_78 : decode cX10_inspect 78 = .ok (.iadd, 1) := by decide +kernel
theorem dX10_inspect_79 : decode cX10_inspect 79 = .ok (.putfield 203, 3) := by decide +kernel
theorem dX10_inspect_82 : decode cX10_inspect 82 = .ok (.aload 5, 2) := by decide +kernel
theorem dX10_inspect_84 : decode cX10_inspect 84 = .ok (.getfield 165, 3) := by decide +kernel
theorem dX10_inspect_87 : decode cX10_inspect 87 = .ok (.invokevirtual 206, 3) := by decide +kernel
theorem dX10_inspect_90 : decode cX10_inspect 90 = .ok (.iinc 3 1, 3) := by decide +kernel
theorem dX10_inspect_93 : decode cX10_inspect 93 = .ok (.iinc 4 1, 3) := by decide +kernel
theorem dX10_inspect_96 : decode cX10_inspect 96 = .ok (.goto (-85), 3) := by decide +kernel
theorem dX10_inspect_99 : decode cX10_inspect 99 = .ok (.iload_n 3, 1) := by decide +kernel
theorem dX10_inspect_100 : decode cX10_inspect 100 = .ok (.ireturn, 1) := by decide +kernel
theorem dX10_meter_0 : decode cX10_meter 0 = .ok (.aload_n 0, 1) := by decide +kernel
theorem dX10_meter_1 : decode cX10_meter 1 = .ok (.iload_n 1, 1) := by decide +kernel
theorem dX10_meter_2 : decode cX10_meter 2 = .ok (.invokevirtual 66, 3) := by decide +kernel
theorem dX10_meter_5 : decode cX10_meter 5 = .ok (.astore 4, 2) := by decide +kernel
theorem dX10_meter_7 : decode cX10_meter 7 = .ok (.iload_n 2, 1) := by decide +kernel
theorem dX10_meter_8 : decode cX10_meter 8 = .ok (.bipush (-50), 2) := by decide +kernel
theorem dX10_meter_10 : decode cX10_meter 10 = .ok (.bipush 50, 2) := by decide +kernel
theorem dX10_meter_12 : decode cX10_meter 12 = .ok (.invokestatic 86, 3) := by decide +kernel
theorem dX10_meter_15 : decode cX10_meter 15 = .ok (.iload_n 3, 1) := by decide +kernel
theorem dX10_meter_16 : decode cX10_meter 16 = .ok (.bipush (-3), 2) := by decide +kernel
theorem dX10_meter_18 : decode cX10_meter 18 = .ok (.iconst 3, 1) := by decide +kernel
theorem dX10_meter_19 : decode cX10_meter 19 = .ok (.invokestatic 86, 3) := by decide +kernel
theorem dX10_meter_22 : decode cX10_meter 22 = .ok (.aload_n 0, 1) := by decide +kernel
theorem dX10_meter_23 : decode cX10_meter 23 = .ok (.getfield 25, 3) := by decide +kernel
theorem dX10_meter_26 : decode cX10_meter 26 = .ok (.invokevirtual 118, 3) := by decide +kernel
theorem dX10_meter_29 : decode cX10_meter 29 = .ok (.bipush 8, 2) := by decide +kernel
theorem dX10_meter_31 : decode cX10_meter 31 = .ok (.if_icmp .ge 7, 3) := by decide +kernel
theorem dX10_meter_34 : decode cX10_meter 34 = .ok (.iconst 1, 1) := by decide +kernel
theorem dX10_meter_35 : decode cX10_meter 35 = .ok (.goto 4, 3) := by decide +kernel
theorem dX10_meter_38 : decode cX10_meter 38 = .ok (.iconst 0, 1) := by decide +kernel
theorem dX10_meter_39 : decode cX10_meter 39 = .ok (.invokestatic 111, 3) := by decide +kernel
theorem dX10_meter_42 : decode cX10_meter 42 = .ok (.aload_n 0, 1) := by decide +kernel
theorem dX10_meter_43 : decode cX10_meter 43 = .ok (.getfield 25, 3) := by decide +kernel
theorem dX10_meter_46 : decode cX10_meter 46 = .ok (.new 209, 3) := by decide +kernel
theorem dX10_meter_49 : decode cX10_meter 49 = .ok (.dup, 1) := by decide +kernel
theorem dX10_meter_50 : decode cX10_meter 50 = .ok (.aload 4, 2) := by decide +kernel
theorem dX10_meter_52 : decode cX10_meter 52 = .ok (.iload_n 2, 1) := by decide +kernel
theorem dX10_meter_53 : decode cX10_meter 53 = .ok (.iload_n 3, 1) := by decide +kernel
theorem dX10_meter_54 : decode cX10_meter 54 = .ok (.invokespecial 211, 3) := by decide +kernel
theorem dX10_meter_57 : decode cX10_meter 57 = .ok (.invokevirtual 57, 3) := by decide +kernel
theorem dX10_meter_60 : decode cX10_meter 60 = .ok (.pop, 1) := by decide +kernel
theorem dX10_meter_61 : decode cX10_meter 61 = .ok (.aload_n 0, 1) := by decide +kernel
theorem dX10_meter_62 : decode cX10_meter 62 = .ok (.getfield 25, 3) := by decide +kernel
theorem dX10_meter_65 : decode cX10_meter 65 = .ok (.invokevirtual 118, 3) := by decide +kernel
theorem dX10_meter_68 : decode cX10_meter 68 = .ok (.iconst 1, 1) := by decide +kernel
theorem dX10_meter_69 : decode cX10_meter 69 = .ok (.isub, 1) := by decide +kernel
theorem dX10_meter_70 : decode cX10_meter 70 = .ok (.ireturn, 1) := by decide +kernel
theorem dX10_read_0 : decode cX10_read 0 = .ok (.aload_n 0, 1) := by decide +kernel
theorem dX10_read_1 : decode cX10_read 1 = .ok (.iload_n 1, 1) := by decide +kernel
theorem dX10_read_2 : decode cX10_read 2 = .ok (.invokevirtual 214, 3) := by decide +kernel
theorem dX10_read_5 : decode cX10_read 5 = .ok (.astore_n 2, 1) := by decide +kernel
theorem dX10_read_6 : decode cX10_read 6 = .ok (.aload_n 2, 1) := by decide +kernel
theorem dX10_read_7 : decode cX10_read 7 = .ok (.getfield 218, 3) := by decide +kernel
theorem dX10_read_10 : decode cX10_read 10 = .ok (.aload_n 2, 1) := by decide +kernel
theorem dX10_read_11 : decode cX10_read 11 = .ok (.getfield 221, 3) := by decide +kernel
theorem dX10_read_14 : decode cX10_read 14 = .ok (.aload_n 0, 1) := by decide +kernel
theorem dX10_read_15 : decode cX10_read 15 = .ok (.getfield 108, 3) := by decide +kernel
theorem dX10_read_18 : decode cX10_read 18 = .ok (.bipush 24, 2) := by decide +kernel
theorem dX10_read_20 : decode cX10_read 20 = .ok (.idiv, 1) := by decide +kernel
theorem dX10_read_21 : decode cX10_read 21 = .ok (.imul, 1) := by decide +kernel
theorem dX10_read_22 : decode cX10_read 22 = .ok (.iadd, 1) := by decide +kernel
theorem dX10_read_23 : decode cX10_read 23 = .ok (.istore_n 3, 1) := by decide +kernel
theorem dX10_read_24 : decode cX10_read 24 = .ok (.aload_n 0, 1) := by decide +kernel
theorem dX10_read_25 : decode cX10_read 25 = .ok (.aload_n 2, 1) := by decide +kernel
theorem dX10_read_26 : decode cX10_read 26 = .ok (.getfield 224, 3) := by decide +kernel
theorem dX10_read_29 : decode cX10_read 29 = .ok (.invokevirtual 225, 3) := by decide +kernel
theorem dX10_read_32 : decode cX10_read 32 = .ok (.aload_n 0, 1) := by decide +kernel
theorem dX10_read_33 : decode cX10_read 33 = .ok (.getfield 108, 3) := by decide +kernel
theorem dX10_read_36 : decode cX10_read 36 = .ok (.invokestatic 229, 3) := by decide +kernel
theorem dX10_read_39 : decode cX10_read 39 = .ok (.iadd, 1) := by decide +kernel
theorem dX10_read_40 : decode cX10_read 40 = .ok (.bipush 20, 2) := by decide +kernel
theorem dX10_read_42 : decode cX10_read 42 = .ok (.iadd, 1) := by decide +kernel
theorem dX10_read_43 : decode cX10_read 43 = .ok (.iload_n 3, 1) := by decide +kernel
theorem dX10_read_44 : decode cX10_read 44 = .ok (.iadd, 1) := by decide +kernel
theorem dX10_read_45 : decode cX10_read 45 = .ok (.istore 4, 2) := by decide +kernel
theorem dX10_read_47 : decode cX10_read 47 = .ok (.aload_n 2, 1) := by decide +kernel
theorem dX10_read_48 : decode cX10_read 48 = .ok (.new 232, 3) := by decide +kernel
theorem dX10_read_51 : decode cX10_read 51 = .ok (.dup, 1) := by decide +kernel
theorem dX10_read_52 : decode cX10_read 52 = .ok (.aload_n 0, 1) := by decide +kernel
theorem dX10_read_53 : decode cX10_read 53 = .ok (.getfield 108, 3) := by decide +kernel
theorem dX10_read_56 : decode cX10_read 56 = .ok (.iload 4, 2) := by decide +kernel
theorem dX10_read_58 : decode cX10_read 58 = .ok (.invokespecial 234, 3) := by decide +kernel
theorem dX10_read_61 : decode cX10_read 61 = .ok (.invokevirtual 235, 3) := by decide +kernel
theorem dX10_read_64 : decode cX10_read 64 = .ok (.iload 4, 2) := by decide +kernel
theorem dX10_read_66 : decode cX10_read 66 = .ok (.ireturn, 1) := by decide +kernel
theorem dX10_tell_0 : decode cX10_tell 0 = .ok (.aload_n 0, 1) := by decide +kernel
theorem dX10_tell_1 : decode cX10_tell 1 = .ok (.iload_n 1, 1) := by decide +kernel
theorem dX10_tell_2 : decode cX10_tell 2 = .ok (.invokevirtual 214, 3) := by decide +kernel
theorem dX10_tell_5 : decode cX10_tell 5 = .ok (.astore_n 3, 1) := by decide +kernel
theorem dX10_tell_6 : decode cX10_tell 6 = .ok (.iload_n 2, 1) := by decide +kernel
theorem dX10_tell_7 : decode cX10_tell 7 = .ok (.sipush (-5000), 3) := by decide +kernel
theorem dX10_tell_10 : decode cX10_tell 10 = .ok (.sipush 5000, 3) := by decide +kernel
theorem dX10_tell_13 : decode cX10_tell 13 = .ok (.invokestatic 86, 3) := by decide +kernel
theorem dX10_tell_16 : decode cX10_tell 16 = .ok (.aload_n 3, 1) := by decide +kernel
theorem dX10_tell_17 : decode cX10_tell 17 = .ok (.getfield 239, 3) := by decide +kernel
theorem dX10_tell_20 : decode cX10_tell 20 = .ok (.istore 4, 2) := by decide +kernel
theorem dX10_tell_22 : decode cX10_tell 22 = .ok (.aload_n 3, 1) := by decide +kernel
theorem dX10_tell_23 : decode cX10_tell 23 = .ok (.iload_n 2, 1) := by decide +kernel
theorem dX10_tell_24 : decode cX10_tell 24 = .ok (.putfield 239, 3) := by decide +kernel
theorem dX10_tell_27 : decode cX10_tell 27 = .ok (.iload 4, 2) := by decide +kernel
theorem dX10_tell_29 : decode cX10_tell 29 = .ok (.ireturn, 1) := by decide +kernel
theorem dX10_audit_0 : decode cX10_audit 0 = .ok (.iload_n 1, 1) := by decide +kernel
theorem dX10_audit_1 : decode cX10_audit 1 = .ok (.iconst 0, 1) := by decide +kernel
theorem dX10_audit_2 : decode cX10_audit 2 = .ok (.ldc 242, 2) := by decide +kernel
theorem dX10_audit_4 : decode cX10_audit 4 = .ok (.invokestatic 86, 3) := by decide +kernel
theorem dX10_audit_7 : decode cX10_audit 7 = .ok (.iconst 1, 1) := by decide +kernel
theorem dX10_audit_8 : decode cX10_audit 8 = .ok (.istore_n 2, 1) := by decide +kernel
theorem dX10_audit_9 : decode cX10_audit 9 = .ok (.iconst 0, 1) := by decide +kernel
theorem dX10_audit_10 : decode cX10_audit 10 = .ok (.istore_n 3, 1) := by decide +kernel
theorem dX10_audit_11 : decode cX10_audit 11 = .ok (.iload_n 3, 1) := by decide +kernel
theorem dX10_audit_12 : decode cX10_audit 12 = .ok (.aload_n 0, 1) := by decide +kernel
theorem dX10_audit_13 : decode cX10_audit 13 = .ok (.getfield 25, 3) := by decide +kernel
theorem dX10_audit_16 : decode cX10_audit 16 = .ok (.invokevirtual 118, 3) := by decide +kernel
theorem dX10_audit_19 : decode cX10_audit 19 = .ok (.if_icmp .ge 29, 3) := by decide +kernel
theorem dX10_audit_22 : decode cX10_audit 22 = .ok (.aload_n 0, 1) := by decide +kernel
theorem dX10_audit_23 : decode cX10_audit 23 = .ok (.getfield 25, 3) := by decide +kernel
theorem dX10_audit_26 : decode cX10_audit 26 = .ok (.iload_n 3, 1) := by decide +kernel
theorem dX10_audit_27 : decode cX10_audit 27 = .ok (.invokevirtual 191, 3) := by decide +kernel
theorem dX10_audit_30 : decode cX10_audit 30 = .ok (.checkcast 209, 3) := by decide +kernel
theorem dX10_audit_33 : decode cX10_audit 33 = .ok (.iload_n 1, 1) := by decide +kernel
theorem dX10_audit_34 : decode cX10_audit 34 = .ok (.invokevirtual 243, 3) := by decide +kernel
theorem dX10_audit_37 : decode cX10_audit 37 = .ok (.ifCond .ne 5, 3) := by decide +kernel
theorem dX10_audit_40 : decode cX10_audit 40 = .ok (.iconst 0, 1) := by decide +kernel
theorem dX10_audit_41 : decode cX10_audit 41 = .ok (.istore_n 2, 1) := by decide +kernel
theorem dX10_audit_42 : decode cX10_audit 42 = .ok (.iinc 3 1, 3) := by decide +kernel
theorem dX10_audit_45 : decode cX10_audit 45 = .ok (.goto (-34), 3) := by decide +kernel
theorem dX10_audit_48 : decode cX10_audit 48 = .ok (.aload_n 0, 1) := by decide +kernel
theorem dX10_audit_49 : decode cX10_audit 49 = .ok (.getfield 34, 3) := by decide +kernel
theorem dX10_audit_52 : decode cX10_audit 52 = .ok (.iload_n 2, 1) := by decide +kernel
theorem dX10_audit_53 : decode cX10_audit 53 = .ok (.invokevirtual 247, 3) := by decide +kernel
theorem dX10_audit_56 : decode cX10_audit 56 = .ok (.iload_n 2, 1) := by decide +kernel
theorem dX10_audit_57 : decode cX10_audit 57 = .ok (.ireturn, 1) := by decide +kernel
theorem dX10_time_0 : decode cX10_time 0 = .ok (.aload_n 0, 1) := by decide +kernel
theorem dX10_time_1 : decode cX10_time 1 = .ok (.getfield 108, 3) := by decide +kernel
theorem dX10_time_4 : decode cX10_time 4 = .ok (.ireturn, 1) := by decide +kernel
theorem dX10_ofLamp_0 : decode cX10_ofLamp 0 = .ok (.aload_n 0, 1) := by decide +kernel
theorem dX10_ofLamp_1 : decode cX10_ofLamp 1 = .ok (.iload_n 1, 1) := by decide +kernel
theorem dX10_ofLamp_2 : decode cX10_ofLamp 2 = .ok (.invokevirtual 139, 3) := by decide +kernel
theorem dX10_ofLamp_5 : decode cX10_ofLamp 5 = .ok (.astore_n 3, 1) := by decide +kernel
theorem dX10_ofLamp_6 : decode cX10_ofLamp 6 = .ok (.iload_n 2, 1) := by decide +kernel
theorem dX10_ofLamp_7 : decode cX10_ofLamp 7 = .ok (.iconst 0, 1) := by decide +kernel
theorem dX10_ofLamp_8 : decode cX10_ofLamp 8 = .ok (.bipush 6, 2) := by decide +kernel
theorem dX10_ofLamp_10 : decode cX10_ofLamp 10 = .ok (.invokestatic 86, 3) := by decide +kernel
theorem dX10_ofLamp_13 : decode cX10_ofLamp 13 = .ok (.iload_n 2, 1) := by decide +kernel
theorem dX10_ofLamp_14 : decode cX10_ofLamp 14 = .ok (.tableswitch 81 0 5 #[38, 52, 57, 62, 67, 72], 38) := by decide +kernel
theorem dX10_ofLamp_52 : decode cX10_ofLamp 52 = .ok (.aload_n 0, 1) := by decide +kernel
theorem dX10_ofLamp_53 : decode cX10_ofLamp 53 = .ok (.aload_n 3, 1) := by decide +kernel
theorem dX10_ofLamp_54 : decode cX10_ofLamp 54 = .ok (.invokevirtual 253, 3) := by decide +kernel
theorem dX10_ofLamp_57 : decode cX10_ofLamp 57 = .ok (.ifCond .eq 7, 3) := by decide +kernel
theorem dX10_ofLamp_60 : decode cX10_ofLamp 60 = .ok (.iconst 1, 1) := by decide +kernel
theorem dX10_ofLamp_61 : decode cX10_ofLamp 61 = .ok (.goto 4, 3) := by decide +kernel
theorem dX10_ofLamp_64 : decode cX10_ofLamp 64 = .ok (.iconst 0, 1) := by decide +kernel
theorem dX10_ofLamp_65 : decode cX10_ofLamp 65 = .ok (.ireturn, 1) := by decide +kernel
theorem dX10_ofLamp_66 : decode cX10_ofLamp 66 = .ok (.aload_n 3, 1) := by decide +kernel
theorem dX10_ofLamp_67 : decode cX10_ofLamp 67 = .ok (.invokevirtual 257, 3) := by decide +kernel
theorem dX10_ofLamp_70 : decode cX10_ofLamp 70 = .ok (.ireturn, 1) := by decide +kernel
theorem dX10_ofLamp_71 : decode cX10_ofLamp 71 = .ok (.aload_n 3, 1) := by decide +kernel
theorem dX10_ofLamp_72 : decode cX10_ofLamp 72 = .ok (.getfield 260, 3) := by decide +kernel
theorem dX10_ofLamp_75 : decode cX10_ofLamp 75 = .ok (.ireturn, 1) := by decide +kernel
theorem dX10_ofLamp_76 : decode cX10_ofLamp 76 = .ok (.aload_n 3, 1) := by decide +kernel
theorem dX10_ofLamp_77 : decode cX10_ofLamp 77 = .ok (.getfield 169, 3) := by decide +kernel
theorem dX10_ofLamp_80 : decode cX10_ofLamp 80 = .ok (.ireturn, 1) := by decide +kernel
theorem dX10_ofLamp_81 : decode cX10_ofLamp 81 = .ok (.aload_n 3, 1) := by decide +kernel
theorem dX10_ofLamp_82 : decode cX10_ofLamp 82 = .ok (.getfield 172, 3) := by decide +kernel
theorem dX10_ofLamp_85 : decode cX10_ofLamp 85 = .ok (.ireturn, 1) := by decide +kernel
theorem dX10_ofLamp_86 : decode cX10_ofLamp 86 = .ok (.aload_n 3, 1) := by decide +kernel
theorem dX10_ofLamp_87 : decode cX10_ofLamp 87 = .ok (.aload_n 0, 1) := by decide +kernel
theorem dX10_ofLamp_88 : decode cX10_ofLamp 88 = .ok (.getfield 108, 3) := by decide +kernel
theorem dX10_ofLamp_91 : decode cX10_ofLamp 91 = .ok (.invokevirtual 143, 3) := by decide +kernel
theorem dX10_ofLamp_94 : decode cX10_ofLamp 94 = .ok (.ireturn, 1) := by decide +kernel
theorem dX10_ofLamp_95 : decode cX10_ofLamp 95 = .ok (.aload_n 3, 1) := by decide +kernel
theorem dX10_ofLamp_96 : decode cX10_ofLamp 96 = .ok (.invokevirtual 199, 3) := by decide +kernel
theorem dX10_ofLamp_99 : decode cX10_ofLamp 99 = .ok (.ifCond .eq 7, 3) := by decide +kernel
theorem dX10_ofLamp_102 : decode cX10_ofLamp 102 = .ok (.iconst 1, 1) := by decide +kernel
theorem dX10_ofLamp_103 : decode cX10_ofLamp 103 = .ok (.goto 4, 3) := by decide +kernel
theorem dX10_ofLamp_106 : decode cX10_ofLamp 106 = .ok (.iconst 0, 1) := by decide +kernel
theorem dX10_ofLamp_107 : decode cX10_ofLamp 107 = .ok (.ireturn, 1) := by decide +kernel
theorem dX10_ofVillage_0 : decode cX10_ofVillage 0 = .ok (.aload_n 0, 1) := by decide +kernel
theorem dX10_ofVillage_1 : decode cX10_ofVillage 1 = .ok (.iload_n 1, 1) := by decide +kernel
theorem dX10_ofVillage_2 : decode cX10_ofVillage 2 = .ok (.invokevirtual 127, 3) := by decide +kernel
theorem dX10_ofVillage_5 : decode cX10_ofVillage 5 = .ok (.astore_n 3, 1) := by decide +kernel
theorem dX10_ofVillage_6 : decode cX10_ofVillage 6 = .ok (.iload_n 2, 1) := by decide +kernel
theorem dX10_ofVillage_7 : decode cX10_ofVillage 7 = .ok (.iconst 0, 1) := by decide +kernel
theorem dX10_ofVillage_8 : decode cX10_ofVillage 8 = .ok (.iconst 3, 1) := by decide +kernel
theorem dX10_ofVillage_9 : decode cX10_ofVillage 9 = .ok (.invokestatic 86, 3) := by decide +kernel
theorem dX10_ofVillage_12 : decode cX10_ofVillage 12 = .ok (.iload_n 2, 1) := by decide +kernel
theorem dX10_ofVillage_13 : decode cX10_ofVillage 13 = .ok (.tableswitch 43 0 2 #[27, 32, 37], 27) := by decide +kernel
theorem dX10_ofVillage_40 : decode cX10_ofVillage 40 = .ok (.aload_n 3, 1) := by decide +kernel
theorem dX10_ofVillage_41 : decode cX10_ofVillage 41 = .ok (.getfield 185, 3) := by decide +kernel
theorem dX10_ofVillage_44 : decode cX10_ofVillage 44 = .ok (.ireturn, 1) := by decide +kernel
theorem dX10_ofVillage_45 : decode cX10_ofVillage 45 = .ok (.aload_n 3, 1) := by decide +kernel
theorem dX10_ofVillage_46 : decode cX10_ofVillage 46 = .ok (.getfield 131, 3) := by decide +kernel
theorem dX10_ofVillage_49 : decode cX10_ofVillage 49 = .ok (.ireturn, 1) := by decide +kernel
theorem dX10_ofVillage_50 : decode cX10_ofVillage 50 = .ok (.aload_n 0, 1) := by decide +kernel
theorem dX10_ofVillage_51 : decode cX10_ofVillage 51 = .ok (.aload_n 3, 1) := by decide +kernel
theorem dX10_ofVillage_52 : decode cX10_ofVillage 52 = .ok (.invokevirtual 263, 3) := by decide +kernel
theorem dX10_ofVillage_55 : decode cX10_ofVillage 55 = .ok (.ireturn, 1) := by decide +kernel
theorem dX10_ofVillage_56 : decode cX10_ofVillage 56 = .ok (.aload_n 3, 1) := by decide +kernel
theorem dX10_ofVillage_57 : decode cX10_ofVillage 57 = .ok (.getfield 267, 3) := by decide +kernel
theorem dX10_ofVillage_60 : decode cX10_ofVillage 60 = .ok (.ireturn, 1) := by decide +kernel
theorem dX10_gives_0 : decode cX10_gives 0 = .ok (.aload_n 0, 1) := by decide +kernel
theorem dX10_gives_1 : decode cX10_gives 1 = .ok (.iload_n 1, 1) := by decide +kernel
theorem dX10_gives_2 : decode cX10_gives 2 = .ok (.invokevirtual 139, 3) := by decide +kernel
theorem dX10_gives_5 : decode cX10_gives 5 = .ok (.astore_n 3, 1) := by decide +kernel
theorem dX10_gives_6 : decode cX10_gives 6 = .ok (.aload_n 0, 1) := by decide +kernel
theorem dX10_gives_7 : decode cX10_gives 7 = .ok (.aload_n 3, 1) := by decide +kernel
theorem dX10_gives_8 : decode cX10_gives 8 = .ok (.aload_n 0, 1) := by decide +kernel
theorem dX10_gives_9 : decode cX10_gives 9 = .ok (.iload_n 2, 1) := by decide +kernel
theorem dX10_gives_10 : decode cX10_gives 10 = .ok (.invokevirtual 66, 3) := by decide +kernel
theorem dX10_gives_13 : decode cX10_gives 13 = .ok (.invokevirtual 270, 3) := by decide +kernel
theorem dX10_gives_16 : decode cX10_gives 16 = .ok (.ireturn, 1) := by decide +kernel
theorem dX10_glow_0 : decode cX10_glow 0 = .ok (.aload_n 0, 1) := by decide +kernel
theorem dX10_glow_1 : decode cX10_glow 1 = .ok (.aload_n 0, 1) := by decide +kernel
theorem dX10_glow_2 : decode cX10_glow 2 = .ok (.iload_n 1, 1) := by decide +kernel
theorem dX10_glow_3 : decode cX10_glow 3 = .ok (.invokevirtual 66, 3) := by decide +kernel
theorem dX10_glow_6 : decode cX10_glow 6 = .ok (.invokevirtual 225, 3) := by decide +kernel
theorem dX10_glow_9 : decode cX10_glow 9 = .ok (.ireturn, 1) := by decide +kernel
theorem dX10_glowFrom_0 : decode cX10_glowFrom 0 = .ok (.aload_n 0, 1) := by decide +kernel
theorem dX10_glowFrom_1 : decode cX10_glowFrom 1 = .ok (.iload_n 1, 1) := by decide +kernel
theorem dX10_glowFrom_2 : decode cX10_glowFrom 2 = .ok (.invokevirtual 66, 3) := by decide +kernel
theorem dX10_glowFrom_5 : decode cX10_glowFrom 5 = .ok (.astore_n 3, 1) := by decide +kernel
theorem dX10_glowFrom_6 : decode cX10_glowFrom 6 = .ok (.iload_n 2, 1) := by decide +kernel
theorem dX10_glowFrom_7 : decode cX10_glowFrom 7 = .ok (.iconst 0, 1) := by decide +kernel
theorem dX10_glowFrom_8 : decode cX10_glowFrom 8 = .ok (.iconst 4, 1) := by decide +kernel
theorem dX10_glowFrom_9 : decode cX10_glowFrom 9 = .ok (.invokestatic 86, 3) := by decide +kernel
theorem dX10_glowFrom_12 : decode cX10_glowFrom 12 = .ok (.iconst 0, 1) := by decide +kernel
theorem dX10_glowFrom_13 : decode cX10_glowFrom 13 = .ok (.istore 4, 2) := by decide +kernel
theorem dX10_glowFrom_15 : decode cX10_glowFrom 15 = .ok (.iconst 0, 1) := by decide +kernel
theorem dX10_glowFrom_16 : decode cX10_glowFrom 16 = .ok (.istore 5, 2) := by decide +kernel
theorem dX10_glowFrom_18 : decode cX10_glowFrom 18 = .ok (.iload 5, 2) := by decide +kernel
theorem dX10_glowFrom_20 : decode cX10_glowFrom 20 = .ok (.aload_n 0, 1) := by decide +kernel
theorem dX10_glowFrom_21 : decode cX10_glowFrom 21 = .ok (.getfield 22, 3) := by decide +kernel
theorem dX10_glowFrom_24 : decode cX10_glowFrom 24 = .ok (.invokevirtual 118, 3) := by decide +kernel
theorem dX10_glowFrom_27 : decode cX10_glowFrom 27 = .ok (.if_icmp .ge 48, 3) := by decide +kernel
theorem dX10_glowFrom_30 : decode cX10_glowFrom 30 = .ok (.aload_n 0, 1) := by decide +kernel
theorem dX10_glowFrom_31 : decode cX10_glowFrom 31 = .ok (.getfield 22, 3) := by decide +kernel
theorem dX10_glowFrom_34 : decode cX10_glowFrom 34 = .ok (.iload 5, 2) := by decide +kernel
theorem dX10_glowFrom_36 : decode cX10_glowFrom 36 = .ok (.invokevirtual 191, 3) := by decide +kernel
theorem dX10_glowFrom_39 : decode cX10_glowFrom 39 = .ok (.checkcast 134, 3) := by decide +kernel
theorem dX10_glowFrom_42 : decode cX10_glowFrom 42 = .ok (.astore 6, 2) := by decide +kernel
theorem dX10_glowFrom_44 : decode cX10_glowFrom 44 = .ok (.aload_n 3, 1) := by decide +kernel
theorem dX10_glowFrom_45 : decode cX10_glowFrom 45 = .ok (.aload 6, 2) := by decide +kernel
theorem dX10_glowFrom_47 : decode cX10_glowFrom 47 = .ok (.getfield 195, 3) := by decide +kernel
theorem dX10_glowFrom_50 : decode cX10_glowFrom 50 = .ok (.invokevirtual 274, 3) := by decide +kernel
theorem dX10_glowFrom_53 : decode cX10_glowFrom 53 = .ok (.iload_n 2, 1) := by decide +kernel
theorem dX10_glowFrom_54 : decode cX10_glowFrom 54 = .ok (.if_icmp .ne 15, 3) := by decide +kernel
theorem dX10_glowFrom_57 : decode cX10_glowFrom 57 = .ok (.iload 4, 2) := by decide +kernel
theorem dX10_glowFrom_59 : decode cX10_glowFrom 59 = .ok (.aload_n 0, 1) := by decide +kernel
theorem dX10_glowFrom_60 : decode cX10_glowFrom 60 = .ok (.aload 6, 2) := by decide +kernel
theorem dX10_glowFrom_62 : decode cX10_glowFrom 62 = .ok (.aload_n 3, 1) := by decide +kernel
theorem dX10_glowFrom_63 : decode cX10_glowFrom 63 = .ok (.invokevirtual 270, 3) := by decide +kernel
theorem dX10_glowFrom_66 : decode cX10_glowFrom 66 = .ok (.iadd, 1) := by decide +kernel
theorem dX10_glowFrom_67 : decode cX10_glowFrom 67 = .ok (.istore 4, 2) := by decide +kernel
theorem dX10_glowFrom_69 : decode cX10_glowFrom 69 = .ok (.iinc 5 1, 3) := by decide +kernel
theorem dX10_glowFrom_72 : decode cX10_glowFrom 72 = .ok (.goto (-54), 3) := by decide +kernel
theorem dX10_glowFrom_75 : decode cX10_glowFrom 75 = .ok (.iload 4, 2) := by decide +kernel
theorem dX10_glowFrom_77 : decode cX10_glowFrom 77 = .ok (.ireturn, 1) := by decide +kernel
theorem dX10_ground_0 : decode cX10_ground 0 = .ok (.aload_n 0, 1) := by decide +kernel
theorem dX10_ground_1 : decode cX10_ground 1 = .ok (.iload_n 1, 1) := by decide +kernel
theorem dX10_ground_2 : decode cX10_ground 2 = .ok (.invokevirtual 66, 3) := by decide +kernel
theorem dX10_ground_5 : decode cX10_ground 5 = .ok (.astore_n 2, 1) := by decide +kernel
theorem dX10_ground_6 : decode cX10_ground 6 = .ok (.iconst 0, 1) := by decide +kernel
theorem dX10_ground_7 : decode cX10_ground 7 = .ok (.istore_n 3, 1) := by decide +kernel
theorem dX10_ground_8 : decode cX10_ground 8 = .ok (.iconst 0, 1) := by decide +kernel
theorem dX10_ground_9 : decode cX10_ground 9 = .ok (.istore 4, 2) := by decide +kernel
theorem dX10_ground_11 : decode cX10_ground 11 = .ok (.iload 4, 2) := by decide +kernel
theorem dX10_ground_13 : decode cX10_ground 13 = .ok (.aload_n 0, 1) := by decide +kernel
theorem dX10_ground_14 : decode cX10_ground 14 = .ok (.getfield 22, 3) := by decide +kernel
theorem dX10_ground_17 : decode cX10_ground 17 = .ok (.invokevirtual 118, 3) := by decide +kernel
theorem dX10_ground_20 : decode cX10_ground 20 = .ok (.if_icmp .ge 69, 3) := by decide +kernel
theorem dX10_ground_23 : decode cX10_ground 23 = .ok (.aload_n 0, 1) := by decide +kernel
theorem dX10_ground_24 : decode cX10_ground 24 = .ok (.getfield 22, 3) := by decide +kernel
theorem dX10_ground_27 : decode cX10_ground 27 = .ok (.iload 4, 2) := by decide +kernel
theorem dX10_ground_29 : decode cX10_ground 29 = .ok (.invokevirtual 191, 3) := by decide +kernel
theorem dX10_ground_32 : decode cX10_ground 32 = .ok (.checkcast 134, 3) := by decide +kernel
theorem dX10_ground_35 : decode cX10_ground 35 = .ok (.astore 5, 2) := by decide +kernel
theorem dX10_ground_37 : decode cX10_ground 37 = .ok (.aload_n 0, 1) := by decide +kernel
theorem dX10_ground_38 : decode cX10_ground 38 = .ok (.aload 5, 2) := by decide +kernel
theorem dX10_ground_40 : decode cX10_ground 40 = .ok (.invokevirtual 253, 3) := by decide +kernel
theorem dX10_ground_43 : decode cX10_ground 43 = .ok (.ifCond .eq 40, 3) := by decide +kernel
theorem dX10_ground_46 : decode cX10_ground 46 = .ok (.iload_n 3, 1) := by decide +kernel
theorem dX10_ground_47 : decode cX10_ground 47 = .ok (.aload 5, 2) := by decide +kernel
theorem dX10_ground_49 : decode cX10_ground 49 = .ok (.invokevirtual 257, 3) := by decide +kernel
theorem dX10_ground_52 : decode cX10_ground 52 = .ok (.aload_n 2, 1) := by decide +kernel
theorem dX10_ground_53 : decode cX10_ground 53 = .ok (.getfield 277, 3) := by decide +kernel
theorem dX10_ground_56 : decode cX10_ground 56 = .ok (.aload 5, 2) := by decide +kernel
theorem dX10_ground_58 : decode cX10_ground 58 = .ok (.getfield 195, 3) := by decide +kernel
theorem dX10_ground_61 : decode cX10_ground 61 = .ok (.getfield 277, 3) := by decide +kernel
theorem dX10_ground_64 : decode cX10_ground 64 = .ok (.isub, 1) := by decide +kernel
theorem dX10_ground_65 : decode cX10_ground 65 = .ok (.aload_n 2, 1) := by decide +kernel
theorem dX10_ground_66 : decode cX10_ground 66 = .ok (.getfield 280, 3) := by decide +kernel
theorem dX10_ground_69 : decode cX10_ground 69 = .ok (.aload 5, 2) := by decide +kernel
theorem dX10_ground_71 : decode cX10_ground 71 = .ok (.getfield 195, 3) := by decide +kernel
theorem dX10_ground_74 : decode cX10_ground 74 = .ok (.getfield 280, 3) := by decide +kernel
theorem dX10_ground_77 : decode cX10_ground 77 = .ok (.isub, 1) := by decide +kernel
theorem dX10_ground_78 : decode cX10_ground 78 = .ok (.invokestatic 283, 3) := by decide +kernel
theorem dX10_ground_81 : decode cX10_ground 81 = .ok (.iadd, 1) := by decide +kernel
theorem dX10_ground_82 : decode cX10_ground 82 = .ok (.istore_n 3, 1) := by decide +kernel
theorem dX10_ground_83 : decode cX10_ground 83 = .ok (.iinc 4 1, 3) := by decide +kernel
theorem dX10_ground_86 : decode cX10_ground 86 = .ok (.goto (-75), 3) := by decide +kernel
theorem dX10_ground_89 : decode cX10_ground 89 = .ok (.iload_n 3, 1) := by decide +kernel
theorem dX10_ground_90 : decode cX10_ground 90 = .ok (.ireturn, 1) := by decide +kernel
theorem dX10_way_0 : decode cX10_way 0 = .ok (.iload_n 1, 1) := by decide +kernel
theorem dX10_way_1 : decode cX10_way 1 = .ok (.bipush 64, 2) := by decide +kernel
theorem dX10_way_3 : decode cX10_way 3 = .ok (.invokestatic 287, 3) := by decide +kernel
theorem dX10_way_6 : decode cX10_way 6 = .ok (.iload_n 2, 1) := by decide +kernel
theorem dX10_way_7 : decode cX10_way 7 = .ok (.bipush 64, 2) := by decide +kernel
theorem dX10_way_9 : decode cX10_way 9 = .ok (.invokestatic 287, 3) := by decide +kernel
theorem dX10_way_12 : decode cX10_way 12 = .ok (.iload_n 3, 1) := by decide +kernel
theorem dX10_way_13 : decode cX10_way 13 = .ok (.iconst 0, 1) := by decide +kernel
theorem dX10_way_14 : decode cX10_way 14 = .ok (.ldc 242, 2) := by decide +kernel
theorem dX10_way_16 : decode cX10_way 16 = .ok (.invokestatic 86, 3) := by decide +kernel
theorem dX10_way_19 : decode cX10_way 19 = .ok (.aload_n 0, 1) := by decide +kernel
theorem dX10_way_20 : decode cX10_way 20 = .ok (.getfield 41, 3) := by decide +kernel
theorem dX10_way_23 : decode cX10_way 23 = .ok (.invokevirtual 290, 3) := by decide +kernel
theorem dX10_way_26 : decode cX10_way 26 = .ok (.iconst 0, 1) := by decide +kernel
theorem dX10_way_27 : decode cX10_way 27 = .ok (.istore 4, 2) := by decide +kernel
theorem dX10_way_29 : decode cX10_way 29 = .ok (.iload 4, 2) := by decide +kernel
theorem dX10_way_31 : decode cX10_way 31 = .ok (.aload_n 0, 1) := by decide +kernel
theorem dX10_way_32 : decode cX10_way 32 = .ok (.getfield 22, 3) := by decide +kernel
theorem dX10_way_35 : decode cX10_way 35 = .ok (.invokevirtual 118, 3) := by decide +kernel
theorem dX10_way_38 : decode cX10_way 38 = .ok (.if_icmp .ge 49, 3) := by decide +kernel
theorem dX10_way_41 : decode cX10_way 41 = .ok (.aload_n 0, 1) := by decide +kernel
theorem dX10_way_42 : decode cX10_way 42 = .ok (.getfield 22, 3) := by decide +kernel
theorem dX10_way_45 : decode cX10_way 45 = .ok (.iload 4, 2) := by decide +kernel
theorem dX10_way_47 : decode cX10_way 47 = .ok (.invokevirtual 191, 3) := by decide +kernel
theorem dX10_way_50 : decode cX10_way 50 = .ok (.checkcast 134, 3) := by decide +kernel
theorem dX10_way_53 : decode cX10_way 53 = .ok (.astore 5, 2) := by decide +kernel
theorem dX10_way_55 : decode cX10_way 55 = .ok (.aload_n 0, 1) := by decide +kernel
theorem dX10_way_56 : decode cX10_way 56 = .ok (.aload 5, 2) := by decide +kernel
theorem dX10_way_58 : decode cX10_way 58 = .ok (.invokevirtual 253, 3) := by decide +kernel
theorem dX10_way_61 : decode cX10_way 61 = .ok (.ifCond .eq 20, 3) := by decide +kernel
theorem dX10_way_64 : decode cX10_way 64 = .ok (.aload_n 0, 1) := by decide +kernel
theorem dX10_way_65 : decode cX10_way 65 = .ok (.getfield 41, 3) := by decide +kernel
theorem dX10_way_68 : decode cX10_way 68 = .ok (.aload 5, 2) := by decide +kernel
theorem dX10_way_70 : decode cX10_way 70 = .ok (.invokevirtual 257, 3) := by decide +kernel
theorem dX10_way_73 : decode cX10_way 73 = .ok (.aload 5, 2) := by decide +kernel
theorem dX10_way_75 : decode cX10_way 75 = .ok (.getfield 195, 3) := by decide +kernel
theorem dX10_way_78 : decode cX10_way 78 = .ok (.invokevirtual 293, 3) := by decide +kernel
theorem dX10_way_81 : decode cX10_way 81 = .ok (.iinc 4 1, 3) := by decide +kernel
theorem dX10_way_84 : decode cX10_way 84 = .ok (.goto (-55), 3) := by decide +kernel
theorem dX10_way_87 : decode cX10_way 87 = .ok (.aload_n 0, 1) := by decide +kernel
theorem dX10_way_88 : decode cX10_way 88 = .ok (.getfield 41, 3) := by decide +kernel
theorem dX10_way_91 : decode cX10_way 91 = .ok (.iload_n 1, 1) := by decide +kernel
theorem dX10_way_92 : decode cX10_way 92 = .ok (.iload_n 2, 1) := by decide +kernel
theorem dX10_way_93 : decode cX10_way 93 = .ok (.iload_n 3, 1) := by decide +kernel
theorem dX10_way_94 : decode cX10_way 94 = .ok (.invokevirtual 297, 3) := by decide +kernel
theorem dX10_way_97 : decode cX10_way 97 = .ok (.ireturn, 1) := by decide +kernel
theorem dX10_ofReading_0 : decode cX10_ofReading 0 = .ok (.aload_n 0, 1) := by decide +kernel
theorem dX10_ofReading_1 : decode cX10_ofReading 1 = .ok (.iload_n 1, 1) := by decide +kernel
theorem dX10_ofReading_2 : decode cX10_ofReading 2 = .ok (.invokevirtual 214, 3) := by decide +kernel
theorem dX10_ofReading_5 : decode cX10_ofReading 5 = .ok (.astore 4, 2) := by decide +kernel
theorem dX10_ofReading_7 : decode cX10_ofReading 7 = .ok (.iload_n 2, 1) := by decide +kernel
theorem dX10_ofReading_8 : decode cX10_ofReading 8 = .ok (.aload 4, 2) := by decide +kernel
theorem dX10_ofReading_10 : decode cX10_ofReading 10 = .ok (.getfield 300, 3) := by decide +kernel
theorem dX10_ofReading_13 : decode cX10_ofReading 13 = .ok (.invokevirtual 118, 3) := by decide +kernel
theorem dX10_ofReading_16 : decode cX10_ofReading 16 = .ok (.invokestatic 287, 3) := by decide +kernel
theorem dX10_ofReading_19 : decode cX10_ofReading 19 = .ok (.iload_n 3, 1) := by decide +kernel
theorem dX10_ofReading_20 : decode cX10_ofReading 20 = .ok (.iconst 0, 1) := by decide +kernel
theorem dX10_ofReading_21 : decode cX10_ofReading 21 = .ok (.iconst 2, 1) := by decide +kernel
theorem dX10_ofReading_22 : decode cX10_ofReading 22 = .ok (.invokestatic 86, 3) := by decide +kernel
theorem dX10_ofReading_25 : decode cX10_ofReading 25 = .ok (.aload 4, 2) := by decide +kernel
theorem dX10_ofReading_27 : decode cX10_ofReading 27 = .ok (.getfield 300, 3) := by decide +kernel
theorem dX10_ofReading_30 : decode cX10_ofReading 30 = .ok (.iload_n 2, 1) := by decide +kernel
theorem dX10_ofReading_31 : decode cX10_ofReading 31 = .ok (.invokevirtual 191, 3) := by decide +kernel
theorem dX10_ofReading_34 : decode cX10_ofReading 34 = .ok (.checkcast 232, 3) := by decide +kernel
theorem dX10_ofReading_37 : decode cX10_ofReading 37 = .ok (.astore 5, 2) := by decide +kernel
theorem dX10_ofReading_39 : decode cX10_ofReading 39 = .ok (.iload_n 3, 1) := by decide +kernel
theorem dX10_ofReading_40 : decode cX10_ofReading 40 = .ok (.lookupswitch 40 #[(0, 28), (1, 34)], 28) := by decide +kernel
theorem dX10_ofReading_68 : decode cX10_ofReading 68 = .ok (.aload 5, 2) := by decide +kernel
theorem dX10_ofReading_70 : decode cX10_ofReading 70 = .ok (.getfield 303, 3) := by decide +kernel
theorem dX10_ofReading_73 : decode cX10_ofReading 73 = .ok (.ireturn, 1) := by decide +kernel
theorem dX10_ofReading_74 : decode cX10_ofReading 74 = .ok (.aload 5, 2) := by decide +kernel
theorem dX10_ofReading_76 : decode cX10_ofReading 76 = .ok (.getfield 306, 3) := by decide +kernel
theorem dX10_ofReading_79 : decode cX10_ofReading 79 = .ok (.ireturn, 1) := by decide +kernel
theorem dX10_ofReading_80 : decode cX10_ofReading 80 = .ok (.aload 4, 2) := by decide +kernel
theorem dX10_ofReading_82 : decode cX10_ofReading 82 = .ok (.aload 5, 2) := by decide +kernel
theorem dX10_ofReading_84 : decode cX10_ofReading 84 = .ok (.invokevirtual 309, 3) := by decide +kernel
theorem dX10_ofReading_87 : decode cX10_ofReading 87 = .ok (.ireturn, 1) := by decide +kernel
theorem dX10_trend_0 : decode cX10_trend 0 = .ok (.aload_n 0, 1) := by decide +kernel
theorem dX10_trend_1 : decode cX10_trend 1 = .ok (.iload_n 1, 1) := by decide +kernel
theorem dX10_trend_2 : decode cX10_trend 2 = .ok (.invokevirtual 214, 3) := by decide +kernel
theorem dX10_trend_5 : decode cX10_trend 5 = .ok (.invokevirtual 313, 3) := by decide +kernel
theorem dX10_trend_8 : decode cX10_trend 8 = .ok (.lreturn, 1) := by decide +kernel
theorem dX10_isHeld_0 : decode cX10_isHeld 0 = .ok (.aload_n 0, 1) := by decide +kernel
theorem dX10_isHeld_1 : decode cX10_isHeld 1 = .ok (.getfield 34, 3) := by decide +kernel
theorem dX10_isHeld_4 : decode cX10_isHeld 4 = .ok (.getfield 317, 3) := by decide +kernel
theorem dX10_isHeld_7 : decode cX10_isHeld 7 = .ok (.ireturn, 1) := by decide +kernel
theorem dX10_culprit_0 : decode cX10_culprit 0 = .ok (.aload_n 0, 1) := by decide +kernel
theorem dX10_culprit_1 : decode cX10_culprit 1 = .ok (.iload_n 1, 1) := by decide +kernel
theorem dX10_culprit_2 : decode cX10_culprit 2 = .ok (.invokevirtual 66, 3) := by decide +kernel
theorem dX10_culprit_5 : decode cX10_culprit 5 = .ok (.astore_n 2, 1) := by decide +kernel
theorem dX10_culprit_6 : decode cX10_culprit 6 = .ok (.iconst (-1), 1) := by decide +kernel
theorem dX10_culprit_7 : decode cX10_culprit 7 = .ok (.istore_n 3, 1) := by decide +kernel
theorem dX10_culprit_8 : decode cX10_culprit 8 = .ok (.iconst 0, 1) := by decide +kernel
theorem dX10_culprit_9 : decode cX10_culprit 9 = .ok (.istore 4, 2) := by decide +kernel
theorem dX10_culprit_11 : decode cX10_culprit 11 = .ok (.iconst 0, 1) := by decide +kernel
theorem dX10_culprit_12 : decode cX10_culprit 12 = .ok (.istore 5, 2) := by decide +kernel
theorem dX10_culprit_14 : decode cX10_culprit 14 = .ok (.iload 5, 2) := by decide +kernel
theorem dX10_culprit_16 : decode cX10_culprit 16 = .ok (.aload_n 0, 1) := by decide +kernel
theorem dX10_culprit_17 : decode cX10_culprit 17 = .ok (.getfield 22, 3) := by decide +kernel
theorem dX10_culprit_20 : decode cX10_culprit 20 = .ok (.invokevirtual 118, 3) := by decide +kernel
theorem dX10_culprit_23 : decode cX10_culprit 23 = .ok (.if_icmp .ge 42, 3) := by decide +kernel
theorem dX10_culprit_26 : decode cX10_culprit 26 = .ok (.aload_n 0, 1) := by decide +kernel
theorem dX10_culprit_27 : decode cX10_culprit 27 = .ok (.aload_n 0, 1) := by decide +kernel
theorem dX10_culprit_28 : decode cX10_culprit 28 = .ok (.getfield 22, 3) := by decide +kernel
theorem dX10_culprit_31 : decode cX10_culprit 31 = .ok (.iload 5, 2) := by decide +kernel
theorem dX10_culprit_33 : decode cX10_culprit 33 = .ok (.invokevirtual 191, 3) := by decide +kernel
theorem dX10_culprit_36 : decode cX10_culprit 36 = .ok (.checkcast 134, 3) := by decide +kernel
theorem dX10_culprit_39 : decode cX10_culprit 39 = .ok (.aload_n 2, 1) := by decide +kernel
theorem dX10_culprit_40 : decode cX10_culprit 40 = .ok (.invokevirtual 270, 3) := by decide +kernel
theorem dX10_culprit_43 : decode cX10_culprit 43 = .ok (.istore 6, 2) := by decide +kernel
theorem dX10_culprit_45 : decode cX10_culprit 45 = .ok (.iload 6, 2) := by decide +kernel
theorem dX10_culprit_47 : decode cX10_culprit 47 = .ok (.iload 4, 2) := by decide +kernel
theorem dX10_culprit_49 : decode cX10_culprit 49 = .ok (.if_icmp .le 10, 3) := by decide +kernel
theorem dX10_culprit_52 : decode cX10_culprit 52 = .ok (.iload 6, 2) := by decide +kernel
theorem dX10_culprit_54 : decode cX10_culprit 54 = .ok (.istore 4, 2) := by decide +kernel
theorem dX10_culprit_56 : decode cX10_culprit 56 = .ok (.iload 5, 2) := by decide +kernel
theorem dX10_culprit_58 : decode cX10_culprit 58 = .ok (.istore_n 3, 1) := by decide +kernel
theorem dX10_culprit_59 : decode cX10_culprit 59 = .ok (.iinc 5 1, 3) := by decide +kernel
theorem dX10_culprit_62 : decode cX10_culprit 62 = .ok (.goto (-48), 3) := by decide +kernel
theorem dX10_culprit_65 : decode cX10_culprit 65 = .ok (.iload_n 3, 1) := by decide +kernel
theorem dX10_culprit_66 : decode cX10_culprit 66 = .ok (.ireturn, 1) := by decide +kernel
theorem dX10_plan_0 : decode cX10_plan 0 = .ok (.aload_n 0, 1) := by decide +kernel
theorem dX10_plan_1 : decode cX10_plan 1 = .ok (.iload_n 1, 1) := by decide +kernel
theorem dX10_plan_2 : decode cX10_plan 2 = .ok (.invokevirtual 127, 3) := by decide +kernel
theorem dX10_plan_5 : decode cX10_plan 5 = .ok (.astore 4, 2) := by decide +kernel
theorem dX10_plan_7 : decode cX10_plan 7 = .ok (.aload_n 0, 1) := by decide +kernel
theorem dX10_plan_8 : decode cX10_plan 8 = .ok (.iload_n 2, 1) := by decide +kernel
theorem dX10_plan_9 : decode cX10_plan 9 = .ok (.invokevirtual 66, 3) := by decide +kernel
theorem dX10_plan_12 : decode cX10_plan 12 = .ok (.astore 5, 2) := by decide +kernel
theorem dX10_plan_14 : decode cX10_plan 14 = .ok (.iload_n 3, 1) := by decide +kernel
theorem dX10_plan_15 : decode cX10_plan 15 = .ok (.iconst 0, 1) := by decide +kernel
theorem dX10_plan_16 : decode cX10_plan 16 = .ok (.sipush 10000, 3) := by decide +kernel
theorem dX10_plan_19 : decode cX10_plan 19 = .ok (.invokestatic 86, 3) := by decide +kernel
theorem dX10_plan_22 : decode cX10_plan 22 = .ok (.aload_n 0, 1) := by decide +kernel
theorem dX10_plan_23 : decode cX10_plan 23 = .ok (.getfield 48, 3) := by decide +kernel
theorem dX10_plan_26 : decode cX10_plan 26 = .ok (.invokevirtual 326, 3) := by decide +kernel
theorem dX10_plan_29 : decode cX10_plan 29 = .ok (.iconst 0, 1) := by decide +kernel
theorem dX10_plan_30 : decode cX10_plan 30 = .ok (.istore 6, 2) := by decide +kernel
theorem dX10_plan_32 : decode cX10_plan 32 = .ok (.iload 6, 2) := by decide +kernel
theorem dX10_plan_34 : decode cX10_plan 34 = .ok (.aload_n 0, 1) := by decide +kernel
theorem dX10_plan_35 : decode cX10_plan 35 = .ok (.getfield 22, 3) := by decide +kernel
theorem dX10_plan_38 : decode cX10_plan 38 = .ok (.invokevirtual 118, 3) := by decide +kernel
theorem dX10_plan_41 : decode cX10_plan 41 = .ok (.if_icmp .ge 54, 3) := by decide +kernel
theorem dX10_plan_44 : decode cX10_plan 44 = .ok (.aload_n 0, 1) := by decide +kernel
theorem dX10_plan_45 : decode cX10_plan 45 = .ok (.getfield 22, 3) := by decide +kernel
theorem dX10_plan_48 : decode cX10_plan 48 = .ok (.iload 6, 2) := by decide +kernel
theorem dX10_plan_50 : decode cX10_plan 50 = .ok (.invokevirtual 191, 3) := by decide +kernel
theorem dX10_plan_53 : decode cX10_plan 53 = .ok (.checkcast 134, 3) := by decide +kernel
theorem dX10_plan_56 : decode cX10_plan 56 = .ok (.astore 7, 2) := by decide +kernel
theorem dX10_plan_58 : decode cX10_plan 58 = .ok (.aload 7, 2) := by decide +kernel
theorem dX10_plan_60 : decode cX10_plan 60 = .ok (.getfield 165, 3) := by decide +kernel
theorem dX10_plan_63 : decode cX10_plan 63 = .ok (.aload 4, 2) := by decide +kernel
theorem dX10_plan_65 : decode cX10_plan 65 = .ok (.if_acmp .ne 24, 3) := by decide +kernel
theorem dX10_plan_68 : decode cX10_plan 68 = .ok (.aload_n 0, 1) := by decide +kernel
theorem dX10_plan_69 : decode cX10_plan 69 = .ok (.getfield 48, 3) := by decide +kernel
theorem dX10_plan_72 : decode cX10_plan 72 = .ok (.aload_n 0, 1) := by decide +kernel
theorem dX10_plan_73 : decode cX10_plan 73 = .ok (.aload 7, 2) := by decide +kernel
theorem dX10_plan_75 : decode cX10_plan 75 = .ok (.invokevirtual 329, 3) := by decide +kernel
theorem dX10_plan_78 : decode cX10_plan 78 = .ok (.aload_n 0, 1) := by decide +kernel
theorem dX10_plan_79 : decode cX10_plan 79 = .ok (.aload 7, 2) := by decide +kernel
theorem dX10_plan_81 : decode cX10_plan 81 = .ok (.aload 5, 2) := by decide +kernel
theorem dX10_plan_83 : decode cX10_plan 83 = .ok (.invokevirtual 270, 3) := by decide +kernel
theorem dX10_plan_86 : decode cX10_plan 86 = .ok (.invokevirtual 333, 3) := by decide +kernel
theorem dX10_plan_89 : decode cX10_plan 89 = .ok (.iinc 6 1, 3) := by decide +kernel
theorem dX10_plan_92 : decode cX10_plan 92 = .ok (.goto (-60), 3) := by decide +kernel
theorem dX10_plan_95 : decode cX10_plan 95 = .ok (.aload_n 0, 1) := by decide +kernel
theorem dX10_plan_96 : decode cX10_plan 96 = .ok (.getfield 48, 3) := by decide +kernel
theorem dX10_plan_99 : decode cX10_plan 99 = .ok (.iload_n 3, 1) := by decide +kernel
theorem dX10_plan_100 : decode cX10_plan 100 = .ok (.invokevirtual 336, 3) := by decide +kernel
theorem dX10_plan_103 : decode cX10_plan 103 = .ok (.ireturn, 1) := by decide +kernel
theorem dX10_needNumber_0 : decode cX10_needNumber 0 = .ok (.iload_n 0, 1) := by decide +kernel
theorem dX10_needNumber_1 : decode cX10_needNumber 1 = .ok (.ifCond .lt 8, 3) := by decide +kernel
theorem dX10_needNumber_4 : decode cX10_needNumber 4 = .ok (.iload_n 0, 1) := by decide +kernel
theorem dX10_needNumber_5 : decode cX10_needNumber 5 = .ok (.iload_n 1, 1) := by decide +kernel
theorem dX10_needNumber_6 : decode cX10_needNumber 6 = .ok (.if_icmp .lt 11, 3) := by decide +kernel
theorem dX10_needNumber_9 : decode cX10_needNumber 9 = .ok (.new 339, 3) := by decide +kernel
theorem dX10_needNumber_12 : decode cX10_needNumber 12 = .ok (.dup, 1) := by decide +kernel
theorem dX10_needNumber_13 : decode cX10_needNumber 13 = .ok (.invokespecial 341, 3) := by decide +kernel
theorem dX10_needNumber_16 : decode cX10_needNumber 16 = .ok (.athrow, 1) := by decide +kernel
theorem dX10_needNumber_17 : decode cX10_needNumber 17 = .ok (.return_, 1) := by decide +kernel
theorem dX10_needRange_0 : decode cX10_needRange 0 = .ok (.iload_n 0, 1) := by decide +kernel
theorem dX10_needRange_1 : decode cX10_needRange 1 = .ok (.iload_n 1, 1) := by decide +kernel
theorem dX10_needRange_2 : decode cX10_needRange 2 = .ok (.if_icmp .lt 8, 3) := by decide +kernel
theorem dX10_needRange_5 : decode cX10_needRange 5 = .ok (.iload_n 0, 1) := by decide +kernel
theorem dX10_needRange_6 : decode cX10_needRange 6 = .ok (.iload_n 2, 1) := by decide +kernel
theorem dX10_needRange_7 : decode cX10_needRange 7 = .ok (.if_icmp .le 11, 3) := by decide +kernel
theorem dX10_needRange_10 : decode cX10_needRange 10 = .ok (.new 342, 3) := by decide +kernel
theorem dX10_needRange_13 : decode cX10_needRange 13 = .ok (.dup, 1) := by decide +kernel
theorem dX10_needRange_14 : decode cX10_needRange 14 = .ok (.invokespecial 344, 3) := by decide +kernel
theorem dX10_needRange_17 : decode cX10_needRange 17 = .ok (.athrow, 1) := by decide +kernel
theorem dX10_needRange_18 : decode cX10_needRange 18 = .ok (.return_, 1) := by decide +kernel
theorem dX10_needState_0 : decode cX10_needState 0 = .ok (.iload_n 0, 1) := by decide +kernel
theorem dX10_needState_1 : decode cX10_needState 1 = .ok (.ifCond .ne 11, 3) := by decide +kernel
theorem dX10_needState_4 : decode cX10_needState 4 = .ok (.new 345, 3) := by decide +kernel
theorem dX10_needState_7 : decode cX10_needState 7 = .ok (.dup, 1) := by decide +kernel
theorem dX10_needState_8 : decode cX10_needState 8 = .ok (.invokespecial 347, 3) := by decide +kernel
theorem dX10_needState_11 : decode cX10_needState 11 = .ok (.athrow, 1) := by decide +kernel
theorem dX10_needState_12 : decode cX10_needState 12 = .ok (.return_, 1) := by decide +kernel
theorem dX10_placeOf_0 : decode cX10_placeOf 0 = .ok (.iload_n 1, 1) := by decide +kernel
theorem dX10_placeOf_1 : decode cX10_placeOf 1 = .ok (.aload_n 0, 1) := by decide +kernel
theorem dX10_placeOf_2 : decode cX10_placeOf 2 = .ok (.getfield 16, 3) := by decide +kernel
theorem dX10_placeOf_5 : decode cX10_placeOf 5 = .ok (.invokevirtual 118, 3) := by decide +kernel
theorem dX10_placeOf_8 : decode cX10_placeOf 8 = .ok (.invokestatic 287, 3) := by decide +kernel
theorem dX10_placeOf_11 : decode cX10_placeOf 11 = .ok (.aload_n 0, 1) := by decide +kernel
theorem dX10_placeOf_12 : decode cX10_placeOf 12 = .ok (.getfield 16, 3) := by decide +kernel
theorem dX10_placeOf_15 : decode cX10_placeOf 15 = .ok (.iload_n 1, 1) := by decide +kernel
theorem dX10_placeOf_16 : decode cX10_placeOf 16 = .ok (.invokevirtual 191, 3) := by decide +kernel
theorem dX10_placeOf_19 : decode cX10_placeOf 19 = .ok (.checkcast 61, 3) := by decide +kernel
theorem dX10_placeOf_22 : decode cX10_placeOf 22 = .ok (.areturn, 1) := by decide +kernel
theorem dX10_zoneOf_0 : decode cX10_zoneOf 0 = .ok (.iload_n 1, 1) := by decide +kernel
theorem dX10_zoneOf_1 : decode cX10_zoneOf 1 = .ok (.aload_n 0, 1) := by decide +kernel
theorem dX10_zoneOf_2 : decode cX10_zoneOf 2 = .ok (.getfield 12, 3) := by decide +kernel
theorem dX10_zoneOf_5 : decode cX10_zoneOf 5 = .ok (.invokevirtual 118, 3) := by decide +kernel
theorem dX10_zoneOf_8 : decode cX10_zoneOf 8 = .ok (.invokestatic 287, 3) := by decide +kernel
theorem dX10_zoneOf_11 : decode cX10_zoneOf 11 = .ok (.aload_n 0, 1) := by decide +kernel
theorem dX10_zoneOf_12 : decode cX10_zoneOf 12 = .ok (.getfield 12, 3) := by decide +kernel
theorem dX10_zoneOf_15 : decode cX10_zoneOf 15 = .ok (.iload_n 1, 1) := by decide +kernel
theorem dX10_zoneOf_16 : decode cX10_zoneOf 16 = .ok (.invokevirtual 191, 3) := by decide +kernel
theorem dX10_zoneOf_19 : decode cX10_zoneOf 19 = .ok (.checkcast 52, 3) := by decide +kernel
theorem dX10_zoneOf_22 : decode cX10_zoneOf 22 = .ok (.areturn, 1) := by decide +kernel
theorem dX10_villageOf_0 : decode cX10_villageOf 0 = .ok (.iload_n 1, 1) := by decide +kernel
theorem dX10_villageOf_1 : decode cX10_villageOf 1 = .ok (.aload_n 0, 1) := by decide +kernel
theorem dX10_villageOf_2 : decode cX10_villageOf 2 = .ok (.getfield 19, 3) := by decide +kernel
theorem dX10_villageOf_5 : decode cX10_villageOf 5 = .ok (.invokevirtual 118, 3) := by decide +kernel
theorem dX10_villageOf_8 : decode cX10_villageOf 8 = .ok (.invokestatic 287, 3) := by decide +kernel
theorem dX10_villageOf_11 : decode cX10_villageOf 11 = .ok (.aload_n 0, 1) := by decide +kernel
theorem dX10_villageOf_12 : decode cX10_villageOf 12 = .ok (.getfield 19, 3) := by decide +kernel
theorem dX10_villageOf_15 : decode cX10_villageOf 15 = .ok (.iload_n 1, 1) := by decide +kernel
theorem dX10_villageOf_16 : decode cX10_villageOf 16 = .ok (.invokevirtual 191, 3) := by decide +kernel
theorem dX10_villageOf_19 : decode cX10_villageOf 19 = .ok (.checkcast 122, 3) := by decide +kernel
theorem dX10_villageOf_22 : decode cX10_villageOf 22 = .ok (.areturn, 1) := by decide +kernel
theorem dX10_lampOf_0 : decode cX10_lampOf 0 = .ok (.iload_n 1, 1) := by decide +kernel
theorem dX10_lampOf_1 : decode cX10_lampOf 1 = .ok (.aload_n 0, 1) := by decide +kernel
theorem dX10_lampOf_2 : decode cX10_lampOf 2 = .ok (.getfield 22, 3) := by decide +kernel
theorem dX10_lampOf_5 : decode cX10_lampOf 5 = .ok (.invokevirtual 118, 3) := by decide +kernel
theorem dX10_lampOf_8 : decode cX10_lampOf 8 = .ok (.invokestatic 287, 3) := by decide +kernel
theorem dX10_lampOf_11 : decode cX10_lampOf 11 = .ok (.aload_n 0, 1) := by decide +kernel
theorem dX10_lampOf_12 : decode cX10_lampOf 12 = .ok (.getfield 22, 3) := by decide +kernel
theorem dX10_lampOf_15 : decode cX10_lampOf 15 = .ok (.iload_n 1, 1) := by decide +kernel
theorem dX10_lampOf_16 : decode cX10_lampOf 16 = .ok (.invokevirtual 191, 3) := by decide +kernel
theorem dX10_lampOf_19 : decode cX10_lampOf 19 = .ok (.checkcast 134, 3) := by decide +kernel
theorem dX10_lampOf_22 : decode cX10_lampOf 22 = .ok (.areturn, 1) := by decide +kernel
theorem dX10_meterOf_0 : decode cX10_meterOf 0 = .ok (.iload_n 1, 1) := by decide +kernel
theorem dX10_meterOf_1 : decode cX10_meterOf 1 = .ok (.aload_n 0, 1) := by decide +kernel
theorem dX10_meterOf_2 : decode cX10_meterOf 2 = .ok (.getfield 25, 3) := by decide +kernel
theorem dX10_meterOf_5 : decode cX10_meterOf 5 = .ok (.invokevirtual 118, 3) := by decide +kernel
theorem dX10_meterOf_8 : decode cX10_meterOf 8 = .ok (.invokestatic 287, 3) := by decide +kernel
theorem dX10_meterOf_11 : decode cX10_meterOf 11 = .ok (.aload_n 0, 1) := by decide +kernel
theorem dX10_meterOf_12 : decode cX10_meterOf 12 = .ok (.getfield 25, 3) := by decide +kernel
theorem dX10_meterOf_15 : decode cX10_meterOf 15 = .ok (.iload_n 1, 1) := by decide +kernel
theorem dX10_meterOf_16 : decode cX10_meterOf 16 = .ok (.invokevirtual 191, 3) := by decide +kernel
theorem dX10_meterOf_19 : decode cX10_meterOf 19 = .ok (.checkcast 209, 3) := by decide +kernel
theorem dX10_meterOf_22 : decode cX10_meterOf 22 = .ok (.areturn, 1) := by decide +kernel
theorem dX10_isNight_0 : decode cX10_isNight 0 = .ok (.iload_n 0, 1) := by decide +kernel
theorem dX10_isNight_1 : decode cX10_isNight 1 = .ok (.bipush 18, 2) := by decide +kernel
theorem dX10_isNight_3 : decode cX10_isNight 3 = .ok (.if_icmp .ge 9, 3) := by decide +kernel
theorem dX10_isNight_6 : decode cX10_isNight 6 = .ok (.iload_n 0, 1) := by decide +kernel
theorem dX10_isNight_7 : decode cX10_isNight 7 = .ok (.bipush 6, 2) := by decide +kernel
theorem dX10_isNight_9 : decode cX10_isNight 9 = .ok (.if_icmp .ge 7, 3) := by decide +kernel
theorem dX10_isNight_12 : decode cX10_isNight 12 = .ok (.iconst 1, 1) := by decide +kernel
theorem dX10_isNight_13 : decode cX10_isNight 13 = .ok (.goto 4, 3) := by decide +kernel
theorem dX10_isNight_16 : decode cX10_isNight 16 = .ok (.iconst 0, 1) := by decide +kernel
theorem dX10_isNight_17 : decode cX10_isNight 17 = .ok (.ireturn, 1) := by decide +kernel
theorem dX10_moonAt_0 : decode cX10_moonAt 0 = .ok (.iload_n 0, 1) := by decide +kernel
theorem dX10_moonAt_1 : decode cX10_moonAt 1 = .ok (.bipush 24, 2) := by decide +kernel
theorem dX10_moonAt_3 : decode cX10_moonAt 3 = .ok (.idiv, 1) := by decide +kernel
theorem dX10_moonAt_4 : decode cX10_moonAt 4 = .ok (.bipush 30, 2) := by decide +kernel
theorem dX10_moonAt_6 : decode cX10_moonAt 6 = .ok (.irem, 1) := by decide +kernel
theorem dX10_moonAt_7 : decode cX10_moonAt 7 = .ok (.istore_n 1, 1) := by decide +kernel
theorem dX10_moonAt_8 : decode cX10_moonAt 8 = .ok (.iload_n 0, 1) := by decide +kernel
theorem dX10_moonAt_9 : decode cX10_moonAt 9 = .ok (.bipush 24, 2) := by decide +kernel
theorem dX10_moonAt_11 : decode cX10_moonAt 11 = .ok (.irem, 1) := by decide +kernel
theorem dX10_moonAt_12 : decode cX10_moonAt 12 = .ok (.invokestatic 320, 3) := by decide +kernel
theorem dX10_moonAt_15 : decode cX10_moonAt 15 = .ok (.ifCond .eq 18, 3) := by decide +kernel
theorem dX10_moonAt_18 : decode cX10_moonAt 18 = .ok (.iconst 4, 1) := by decide +kernel
theorem dX10_moonAt_19 : decode cX10_moonAt 19 = .ok (.bipush 15, 2) := by decide +kernel
theorem dX10_moonAt_21 : decode cX10_moonAt 21 = .ok (.bipush 15, 2) := by decide +kernel
theorem dX10_moonAt_23 : decode cX10_moonAt 23 = .ok (.iload_n 1, 1) := by decide +kernel
theorem dX10_moonAt_24 : decode cX10_moonAt 24 = .ok (.isub, 1) := by decide +kernel
theorem dX10_moonAt_25 : decode cX10_moonAt 25 = .ok (.invokestatic 348, 3) := by decide +kernel
theorem dX10_moonAt_28 : decode cX10_moonAt 28 = .ok (.isub, 1) := by decide +kernel
theorem dX10_moonAt_29 : decode cX10_moonAt 29 = .ok (.imul, 1) := by decide +kernel
theorem dX10_moonAt_30 : decode cX10_moonAt 30 = .ok (.goto 4, 3) := by decide +kernel
theorem dX10_moonAt_33 : decode cX10_moonAt 33 = .ok (.iconst 0, 1) := by decide +kernel
theorem dX10_moonAt_34 : decode cX10_moonAt 34 = .ok (.ireturn, 1) := by decide +kernel
theorem dX10_weakened_0 : decode cX10_weakened 0 = .ok (.iconst 1, 1) := by decide +kernel
theorem dX10_weakened_1 : decode cX10_weakened 1 = .ok (.iload_n 1, 1) := by decide +kernel
theorem dX10_weakened_2 : decode cX10_weakened 2 = .ok (.iload_n 1, 1) := by decide +kernel
theorem dX10_weakened_3 : decode cX10_weakened 3 = .ok (.imul, 1) := by decide +kernel
theorem dX10_weakened_4 : decode cX10_weakened 4 = .ok (.iadd, 1) := by decide +kernel
theorem dX10_weakened_5 : decode cX10_weakened 5 = .ok (.iload_n 2, 1) := by decide +kernel
theorem dX10_weakened_6 : decode cX10_weakened 6 = .ok (.iload_n 2, 1) := by decide +kernel
theorem dX10_weakened_7 : decode cX10_weakened 7 = .ok (.imul, 1) := by decide +kernel
theorem dX10_weakened_8 : decode cX10_weakened 8 = .ok (.iadd, 1) := by decide +kernel
theorem dX10_weakened_9 : decode cX10_weakened 9 = .ok (.istore_n 3, 1) := by decide +kernel
theorem dX10_weakened_10 : decode cX10_weakened 10 = .ok (.iload_n 3, 1) := by decide +kernel
theorem dX10_weakened_11 : decode cX10_weakened 11 = .ok (.ifCond .le 9, 3) := by decide +kernel
theorem dX10_weakened_14 : decode cX10_weakened 14 = .ok (.iload_n 0, 1) := by decide +kernel
theorem dX10_weakened_15 : decode cX10_weakened 15 = .ok (.iload_n 3, 1) := by decide +kernel
theorem dX10_weakened_16 : decode cX10_weakened 16 = .ok (.idiv, 1) := by decide +kernel
theorem dX10_weakened_17 : decode cX10_weakened 17 = .ok (.goto 4, 3) := by decide +kernel
theorem dX10_weakened_20 : decode cX10_weakened 20 = .ok (.iconst 0, 1) := by decide +kernel
theorem dX10_weakened_21 : decode cX10_weakened 21 = .ok (.ireturn, 1) := by decide +kernel
theorem dX10_ageLamps_0 : decode cX10_ageLamps 0 = .ok (.iconst 0, 1) := by decide +kernel
theorem dX10_ageLamps_1 : decode cX10_ageLamps 1 = .ok (.istore_n 1, 1) := by decide +kernel
theorem dX10_ageLamps_2 : decode cX10_ageLamps 2 = .ok (.iload_n 1, 1) := by decide +kernel
theorem dX10_ageLamps_3 : decode cX10_ageLamps 3 = .ok (.aload_n 0, 1) := by decide +kernel
theorem dX10_ageLamps_4 : decode cX10_ageLamps 4 = .ok (.getfield 22, 3) := by decide +kernel
theorem dX10_ageLamps_7 : decode cX10_ageLamps 7 = .ok (.invokevirtual 118, 3) := by decide +kernel
theorem dX10_ageLamps_10 : decode cX10_ageLamps 10 = .ok (.if_icmp .ge 39, 3) := by decide +kernel
theorem dX10_ageLamps_13 : decode cX10_ageLamps 13 = .ok (.aload_n 0, 1) := by decide +kernel
theorem dX10_ageLamps_14 : decode cX10_ageLamps 14 = .ok (.getfield 22, 3) := by decide +kernel
theorem dX10_ageLamps_17 : decode cX10_ageLamps 17 = .ok (.iload_n 1, 1) := by decide +kernel
theorem dX10_ageLamps_18 : decode cX10_ageLamps 18 = .ok (.invokevirtual 191, 3) := by decide +kernel
theorem dX10_ageLamps_21 : decode cX10_ageLamps 21 = .ok (.checkcast 134, 3) := by decide +kernel
theorem dX10_ageLamps_24 : decode cX10_ageLamps 24 = .ok (.astore_n 2, 1) := by decide +kernel
theorem dX10_ageLamps_25 : decode cX10_ageLamps 25 = .ok (.aload_n 0, 1) := by decide +kernel
theorem dX10_ageLamps_26 : decode cX10_ageLamps 26 = .ok (.aload_n 2, 1) := by decide +kernel
theorem dX10_ageLamps_27 : decode cX10_ageLamps 27 = .ok (.invokevirtual 253, 3) := by decide +kernel
theorem dX10_ageLamps_30 : decode cX10_ageLamps 30 = .ok (.ifCond .eq 13, 3) := by decide +kernel
theorem dX10_ageLamps_33 : decode cX10_ageLamps 33 = .ok (.aload_n 2, 1) := by decide +kernel
theorem dX10_ageLamps_34 : decode cX10_ageLamps 34 = .ok (.dup, 1) := by decide +kernel
theorem dX10_ageLamps_35 : decode cX10_ageLamps 35 = .ok (.getfield 260, 3) := by decide +kernel
theorem dX10_ageLamps_38 : decode cX10_ageLamps 38 = .ok (.iconst 1, 1) := by decide +kernel
theorem dX10_ageLamps_39 : decode cX10_ageLamps 39 = .ok (.iadd, 1) := by decide +kernel
theorem dX10_ageLamps_40 : decode cX10_ageLamps 40 = .ok (.putfield 260, 3) := by decide +kernel
theorem dX10_ageLamps_43 : decode cX10_ageLamps 43 = .ok (.iinc 1 1, 3) := by decide +kernel
theorem dX10_ageLamps_46 : decode cX10_ageLamps 46 = .ok (.goto (-44), 3) := by decide +kernel
theorem dX10_ageLamps_49 : decode cX10_ageLamps 49 = .ok (.return_, 1) := by decide +kernel
theorem dX10_isBurning_0 : decode cX10_isBurning 0 = .ok (.aload_n 0, 1) := by decide +kernel
theorem dX10_isBurning_1 : decode cX10_isBurning 1 = .ok (.getfield 108, 3) := by decide +kernel
theorem dX10_isBurning_4 : decode cX10_isBurning 4 = .ok (.bipush 24, 2) := by decide +kernel
theorem dX10_isBurning_6 : decode cX10_isBurning 6 = .ok (.irem, 1) := by decide +kernel
theorem dX10_isBurning_7 : decode cX10_isBurning 7 = .ok (.istore_n 2, 1) := by decide +kernel
theorem dX10_isBurning_8 : decode cX10_isBurning 8 = .ok (.aload_n 1, 1) := by decide +kernel
theorem dX10_isBurning_9 : decode cX10_isBurning 9 = .ok (.iload_n 2, 1) := by decide +kernel
theorem dX10_isBurning_10 : decode cX10_isBurning 10 = .ok (.invokevirtual 351, 3) := by decide +kernel
theorem dX10_isBurning_13 : decode cX10_isBurning 13 = .ok (.ifCond .eq 17, 3) := by decide +kernel
theorem dX10_isBurning_16 : decode cX10_isBurning 16 = .ok (.aload_n 0, 1) := by decide +kernel
theorem dX10_isBurning_17 : decode cX10_isBurning 17 = .ok (.getfield 108, 3) := by decide +kernel
theorem dX10_isBurning_20 : decode cX10_isBurning 20 = .ok (.aload_n 1, 1) := by decide +kernel
theorem dX10_isBurning_21 : decode cX10_isBurning 21 = .ok (.getfield 165, 3) := by decide +kernel
theorem dX10_isBurning_24 : decode cX10_isBurning 24 = .ok (.getfield 156, 3) := by decide +kernel
theorem dX10_isBurning_27 : decode cX10_isBurning 27 = .ok (.if_icmp .ge 5, 3) := by decide +kernel
theorem dX10_isBurning_30 : decode cX10_isBurning 30 = .ok (.iconst 0, 1) := by decide +kernel
theorem dX10_isBurning_31 : decode cX10_isBurning 31 = .ok (.ireturn, 1) := by decide +kernel
theorem dX10_isBurning_32 : decode cX10_isBurning 32 = .ok (.aload_n 1, 1) := by decide +kernel
theorem dX10_isBurning_33 : decode cX10_isBurning 33 = .ok (.getfield 195, 3) := by decide +kernel
theorem dX10_isBurning_36 : decode cX10_isBurning 36 = .ok (.getfield 78, 3) := by decide +kernel
theorem dX10_isBurning_39 : decode cX10_isBurning 39 = .ok (.astore_n 3, 1) := by decide +kernel
theorem dX10_isBurning_40 : decode cX10_isBurning 40 = .ok (.aload_n 1, 1) := by decide +kernel
theorem dX10_isBurning_41 : decode cX10_isBurning 41 = .ok (.getfield 153, 3) := by decide +kernel
theorem dX10_isBurning_44 : decode cX10_isBurning 44 = .ok (.ifCond .ne 25, 3) := by decide +kernel
theorem dX10_isBurning_47 : decode cX10_isBurning 47 = .ok (.aload_n 3, 1) := by decide +kernel
theorem dX10_isBurning_48 : decode cX10_isBurning 48 = .ok (.iload_n 2, 1) := by decide +kernel
theorem dX10_isBurning_49 : decode cX10_isBurning 49 = .ok (.invokevirtual 354, 3) := by decide +kernel
theorem dX10_isBurning_52 : decode cX10_isBurning 52 = .ok (.ifCond .ne 17, 3) := by decide +kernel
theorem dX10_isBurning_55 : decode cX10_isBurning 55 = .ok (.aload_n 3, 1) := by decide +kernel
theorem dX10_isBurning_56 : decode cX10_isBurning 56 = .ok (.aload_n 0, 1) := by decide +kernel
theorem dX10_isBurning_57 : decode cX10_isBurning 57 = .ok (.getfield 108, 3) := by decide +kernel
theorem dX10_isBurning_60 : decode cX10_isBurning 60 = .ok (.bipush 24, 2) := by decide +kernel
theorem dX10_isBurning_62 : decode cX10_isBurning 62 = .ok (.idiv, 1) := by decide +kernel
theorem dX10_isBurning_63 : decode cX10_isBurning 63 = .ok (.invokevirtual 357, 3) := by decide +kernel
theorem dX10_isBurning_66 : decode cX10_isBurning 66 = .ok (.ifCond .eq 7, 3) := by decide +kernel
theorem dX10_isBurning_69 : decode cX10_isBurning 69 = .ok (.iconst 1, 1) := by decide +kernel
theorem dX10_isBurning_70 : decode cX10_isBurning 70 = .ok (.goto 4, 3) := by decide +kernel
theorem dX10_isBurning_73 : decode cX10_isBurning 73 = .ok (.iconst 0, 1) := by decide +kernel
theorem dX10_isBurning_74 : decode cX10_isBurning 74 = .ok (.ireturn, 1) := by decide +kernel
theorem dX10_burningLampsOf_0 : decode cX10_burningLampsOf 0 = .ok (.iconst 0, 1) := by decide +kernel
theorem dX10_burningLampsOf_1 : decode cX10_burningLampsOf 1 = .ok (.istore_n 2, 1) := by decide +kernel
theorem dX10_burningLampsOf_2 : decode cX10_burningLampsOf 2 = .ok (.iconst 0, 1) := by decide +kernel
theorem dX10_burningLampsOf_3 : decode cX10_burningLampsOf 3 = .ok (.istore_n 3, 1) := by decide +kernel
theorem dX10_burningLampsOf_4 : decode cX10_burningLampsOf 4 = .ok (.iload_n 3, 1) := by decide +kernel
theorem dX10_burningLampsOf_5 : decode cX10_burningLampsOf 5 = .ok (.aload_n 0, 1) := by decide +kernel
theorem dX10_burningLampsOf_6 : decode cX10_burningLampsOf 6 = .ok (.getfield 22, 3) := by decide +kernel
theorem dX10_burningLampsOf_9 : decode cX10_burningLampsOf 9 = .ok (.invokevirtual 118, 3) := by decide +kernel
theorem dX10_burningLampsOf_12 : decode cX10_burningLampsOf 12 = .ok (.if_icmp .ge 43, 3) := by decide +kernel
theorem dX10_burningLampsOf_15 : decode cX10_burningLampsOf 15 = .ok (.aload_n 0, 1) := by decide +kernel
theorem dX10_burningLampsOf_16 : decode cX10_burningLampsOf 16 = .ok (.getfield 22, 3) := by decide +kernel
theorem dX10_burningLampsOf_19 : decode cX10_burningLampsOf 19 = .ok (.iload_n 3, 1) := by decide +kernel
theorem dX10_burningLampsOf_20 : decode cX10_burningLampsOf 20 = .ok (.invokevirtual 191, 3) := by decide +kernel
theorem dX10_burningLampsOf_23 : decode cX10_burningLampsOf 23 = .ok (.checkcast 134, 3) := by decide +kernel
theorem dX10_burningLampsOf_26 : decode cX10_burningLampsOf 26 = .ok (.astore 4, 2) := by decide +kernel
theorem dX10_burningLampsOf_28 : decode cX10_burningLampsOf 28 = .ok (.aload 4, 2) := by decide +kernel
theorem dX10_burningLampsOf_30 : decode cX10_burningLampsOf 30 = .ok (.getfield 165, 3) := by decide +kernel
theorem dX10_burningLampsOf_33 : decode cX10_burningLampsOf 33 = .ok (.aload_n 1, 1) := by decide +kernel
theorem dX10_burningLampsOf_34 : decode cX10_burningLampsOf 34 = .ok (.if_acmp .ne 15, 3) := by decide +kernel
theorem dX10_burningLampsOf_37 : decode cX10_burningLampsOf 37 = .ok (.aload_n 0, 1) := by decide +kernel
theorem dX10_burningLampsOf_38 : decode cX10_burningLampsOf 38 = .ok (.aload 4, 2) := by decide +kernel
theorem dX10_burningLampsOf_40 : decode cX10_burningLampsOf 40 = .ok (.invokevirtual 253, 3) := by decide +kernel
theorem dX10_burningLampsOf_43 : decode cX10_burningLampsOf 43 = .ok (.ifCond .eq 6, 3) := by decide +kernel
theorem dX10_burningLampsOf_46 : decode cX10_burningLampsOf 46 = .ok (.iinc 2 1, 3) := by decide +kernel
theorem dX10_burningLampsOf_49 : decode cX10_burningLampsOf 49 = .ok (.iinc 3 1, 3) := by decide +kernel
theorem dX10_burningLampsOf_52 : decode cX10_burningLampsOf 52 = .ok (.goto (-48), 3) := by decide +kernel
theorem dX10_burningLampsOf_55 : decode cX10_burningLampsOf 55 = .ok (.iload_n 2, 1) := by decide +kernel
theorem dX10_burningLampsOf_56 : decode cX10_burningLampsOf 56 = .ok (.ireturn, 1) := by decide +kernel
theorem dX10_givenBy_0 : decode cX10_givenBy 0 = .ok (.aload_n 0, 1) := by decide +kernel
theorem dX10_givenBy_1 : decode cX10_givenBy 1 = .ok (.aload_n 1, 1) := by decide +kernel
theorem dX10_givenBy_2 : decode cX10_givenBy 2 = .ok (.invokevirtual 253, 3) := by decide +kernel
theorem dX10_givenBy_5 : decode cX10_givenBy 5 = .ok (.ifCond .ne 5, 3) := by decide +kernel
theorem dX10_givenBy_8 : decode cX10_givenBy 8 = .ok (.iconst 0, 1) := by decide +kernel
theorem dX10_givenBy_9 : decode cX10_givenBy 9 = .ok (.ireturn, 1) := by decide +kernel
theorem dX10_givenBy_10 : decode cX10_givenBy 10 = .ok (.aload_n 1, 1) := by decide +kernel
theorem dX10_givenBy_11 : decode cX10_givenBy 11 = .ok (.invokevirtual 360, 3) := by decide +kernel
theorem dX10_givenBy_14 : decode cX10_givenBy 14 = .ok (.istore_n 3, 1) := by decide +kernel
theorem dX10_givenBy_15 : decode cX10_givenBy 15 = .ok (.iload_n 3, 1) := by decide +kernel
theorem dX10_givenBy_16 : decode cX10_givenBy 16 = .ok (.aload_n 2, 1) := by decide +kernel
theorem dX10_givenBy_17 : decode cX10_givenBy 17 = .ok (.getfield 277, 3) := by decide +kernel
theorem dX10_givenBy_20 : decode cX10_givenBy 20 = .ok (.aload_n 1, 1) := by decide +kernel
theorem dX10_givenBy_21 : decode cX10_givenBy 21 = .ok (.getfield 195, 3) := by decide +kernel
theorem dX10_givenBy_24 : decode cX10_givenBy 24 = .ok (.getfield 277, 3) := by decide +kernel
theorem dX10_givenBy_27 : decode cX10_givenBy 27 = .ok (.isub, 1) := by decide +kernel
theorem dX10_givenBy_28 : decode cX10_givenBy 28 = .ok (.aload_n 2, 1) := by decide +kernel
theorem dX10_givenBy_29 : decode cX10_givenBy 29 = .ok (.getfield 280, 3) := by decide +kernel
theorem dX10_givenBy_32 : decode cX10_givenBy 32 = .ok (.aload_n 1, 1) := by decide +kernel
theorem dX10_givenBy_33 : decode cX10_givenBy 33 = .ok (.getfield 195, 3) := by decide +kernel
theorem dX10_givenBy_36 : decode cX10_givenBy 36 = .ok (.getfield 280, 3) := by decide +kernel
theorem dX10_givenBy_39 : decode cX10_givenBy 39 = .ok (.isub, 1) := by decide +kernel
theorem dX10_givenBy_40 : decode cX10_givenBy 40 = .ok (.invokestatic 283, 3) := by decide +kernel
theorem dX10_givenBy_43 : decode cX10_givenBy 43 = .ok (.istore 4, 2) := by decide +kernel
theorem dX10_givenBy_45 : decode cX10_givenBy 45 = .ok (.aload_n 0, 1) := by decide +kernel
theorem dX10_givenBy_46 : decode cX10_givenBy 46 = .ok (.aload_n 1, 1) := by decide +kernel
theorem dX10_givenBy_47 : decode cX10_givenBy 47 = .ok (.getfield 195, 3) := by decide +kernel
theorem dX10_givenBy_50 : decode cX10_givenBy 50 = .ok (.aload_n 2, 1) := by decide +kernel
theorem dX10_givenBy_51 : decode cX10_givenBy 51 = .ok (.invokevirtual 363, 3) := by decide +kernel
theorem dX10_givenBy_54 : decode cX10_givenBy 54 = .ok (.ifCond .eq 10, 3) := by decide +kernel
theorem dX10_givenBy_57 : decode cX10_givenBy 57 = .ok (.iload 4, 2) := by decide +kernel
theorem dX10_givenBy_59 : decode cX10_givenBy 59 = .ok (.iconst 2, 1) := by decide +kernel
theorem dX10_givenBy_60 : decode cX10_givenBy 60 = .ok (.idiv, 1) := by decide +kernel
theorem dX10_givenBy_61 : decode cX10_givenBy 61 = .ok (.goto 5, 3) := by decide +kernel
theorem dX10_givenBy_64 : decode cX10_givenBy 64 = .ok (.iload 4, 2) := by decide +kernel
theorem dX10_givenBy_66 : decode cX10_givenBy 66 = .ok (.istore 5, 2) := by decide +kernel
theorem dX10_givenBy_68 : decode cX10_givenBy 68 = .ok (.iload 5, 2) := by decide +kernel
theorem dX10_givenBy_70 : decode cX10_givenBy 70 = .ok (.aload_n 0, 1) := by decide +kernel
theorem dX10_givenBy_71 : decode cX10_givenBy 71 = .ok (.invokevirtual 367, 3) := by decide +kernel
theorem dX10_givenBy_74 : decode cX10_givenBy 74 = .ok (.imul, 1) := by decide +kernel
theorem dX10_givenBy_75 : decode cX10_givenBy 75 = .ok (.ireturn, 1) := by decide +kernel
theorem dX10_airFactor_0 : decode cX10_airFactor 0 = .ok (.aload_n 0, 1) := by decide +kernel
theorem dX10_airFactor_1 : decode cX10_airFactor 1 = .ok (.getfield 105, 3) := by decide +kernel
theorem dX10_airFactor_4 : decode cX10_airFactor 4 = .ok (.iconst 2, 1) := by decide +kernel
theorem dX10_airFactor_5 : decode cX10_airFactor 5 = .ok (.if_icmp .ne 5, 3) := by decide +kernel
theorem dX10_airFactor_8 : decode cX10_airFactor 8 = .ok (.iconst 5, 1) := by decide +kernel
theorem dX10_airFactor_9 : decode cX10_airFactor 9 = .ok (.ireturn, 1) := by decide +kernel
theorem dX10_airFactor_10 : decode cX10_airFactor 10 = .ok (.aload_n 0, 1) := by decide +kernel
theorem dX10_airFactor_11 : decode cX10_airFactor 11 = .ok (.getfield 105, 3) := by decide +kernel
theorem dX10_airFactor_14 : decode cX10_airFactor 14 = .ok (.iconst 1, 1) := by decide +kernel
theorem dX10_airFactor_15 : decode cX10_airFactor 15 = .ok (.if_icmp .ne 7, 3) := by decide +kernel
theorem dX10_airFactor_18 : decode cX10_airFactor 18 = .ok (.iconst 2, 1) := by decide +kernel
theorem dX10_airFactor_19 : decode cX10_airFactor 19 = .ok (.goto 4, 3) := by decide +kernel
theorem dX10_airFactor_22 : decode cX10_airFactor 22 = .ok (.iconst 1, 1) := by decide +kernel
theorem dX10_airFactor_23 : decode cX10_airFactor 23 = .ok (.ireturn, 1) := by decide +kernel
theorem dX10_glowOf_0 : decode cX10_glowOf 0 = .ok (.iconst 0, 1) := by decide +kernel
theorem dX10_glowOf_1 : decode cX10_glowOf 1 = .ok (.istore_n 2, 1) := by decide +kernel
theorem dX10_glowOf_2 : decode cX10_glowOf 2 = .ok (.iconst 0, 1) := by decide +kernel
theorem dX10_glowOf_3 : decode cX10_glowOf 3 = .ok (.istore_n 3, 1) := by decide +kernel
theorem dX10_glowOf_4 : decode cX10_glowOf 4 = .ok (.iload_n 3, 1) := by decide +kernel
theorem dX10_glowOf_5 : decode cX10_glowOf 5 = .ok (.aload_n 0, 1) := by decide +kernel
theorem dX10_glowOf_6 : decode cX10_glowOf 6 = .ok (.getfield 22, 3) := by decide +kernel
theorem dX10_glowOf_9 : decode cX10_glowOf 9 = .ok (.invokevirtual 118, 3) := by decide +kernel
theorem dX10_glowOf_12 : decode cX10_glowOf 12 = .ok (.if_icmp .ge 28, 3) := by decide +kernel
theorem dX10_glowOf_15 : decode cX10_glowOf 15 = .ok (.iload_n 2, 1) := by decide +kernel
theorem dX10_glowOf_16 : decode cX10_glowOf 16 = .ok (.aload_n 0, 1) := by decide +kernel
theorem dX10_glowOf_17 : decode cX10_glowOf 17 = .ok (.aload_n 0, 1) := by decide +kernel
theorem dX10_glowOf_18 : decode cX10_glowOf 18 = .ok (.getfield 22, 3) := by decide +kernel
theorem dX10_glowOf_21 : decode cX10_glowOf 21 = .ok (.iload_n 3, 1) := by decide +kernel
theorem dX10_glowOf_22 : decode cX10_glowOf 22 = .ok (.invokevirtual 191, 3) := by decide +kernel
theorem dX10_glowOf_25 : decode cX10_glowOf 25 = .ok (.checkcast 134, 3) := by decide +kernel
theorem dX10_glowOf_28 : decode cX10_glowOf 28 = .ok (.aload_n 1, 1) := by decide +kernel
theorem dX10_glowOf_29 : decode cX10_glowOf 29 = .ok (.invokevirtual 270, 3) := by decide +kernel
theorem dX10_glowOf_32 : decode cX10_glowOf 32 = .ok (.iadd, 1) := by decide +kernel
theorem dX10_glowOf_33 : decode cX10_glowOf 33 = .ok (.istore_n 2, 1) := by decide +kernel
theorem dX10_glowOf_34 : decode cX10_glowOf 34 = .ok (.iinc 3 1, 3) := by decide +kernel
theorem dX10_glowOf_37 : decode cX10_glowOf 37 = .ok (.goto (-33), 3) := by decide +kernel
theorem dX10_glowOf_40 : decode cX10_glowOf 40 = .ok (.iload_n 2, 1) := by decide +kernel
theorem dX10_glowOf_41 : decode cX10_glowOf 41 = .ok (.ireturn, 1) := by decide +kernel
theorem dX10_isShaded_0 : decode cX10_isShaded 0 = .ok (.aload_n 1, 1) := by decide +kernel
theorem dX10_isShaded_1 : decode cX10_isShaded 1 = .ok (.getfield 277, 3) := by decide +kernel
theorem dX10_isShaded_4 : decode cX10_isShaded 4 = .ok (.aload_n 2, 1) := by decide +kernel
theorem dX10_isShaded_5 : decode cX10_isShaded 5 = .ok (.getfield 277, 3) := by decide +kernel
theorem dX10_isShaded_8 : decode cX10_isShaded 8 = .ok (.invokestatic 370, 3) := by decide +kernel
theorem dX10_isShaded_11 : decode cX10_isShaded 11 = .ok (.istore_n 3, 1) := by decide +kernel
theorem dX10_isShaded_12 : decode cX10_isShaded 12 = .ok (.aload_n 1, 1) := by decide +kernel
theorem dX10_isShaded_13 : decode cX10_isShaded 13 = .ok (.getfield 277, 3) := by decide +kernel
theorem dX10_isShaded_16 : decode cX10_isShaded 16 = .ok (.aload_n 2, 1) := by decide +kernel
theorem dX10_isShaded_17 : decode cX10_isShaded 17 = .ok (.getfield 277, 3) := by decide +kernel
theorem dX10_isShaded_20 : decode cX10_isShaded 20 = .ok (.invokestatic 159, 3) := by decide +kernel
theorem dX10_isShaded_23 : decode cX10_isShaded 23 = .ok (.istore 4, 2) := by decide +kernel
theorem dX10_isShaded_25 : decode cX10_isShaded 25 = .ok (.aload_n 1, 1) := by decide +kernel
theorem dX10_isShaded_26 : decode cX10_isShaded 26 = .ok (.getfield 280, 3) := by decide +kernel
theorem dX10_isShaded_29 : decode cX10_isShaded 29 = .ok (.aload_n 2, 1) := by decide +kernel
theorem dX10_isShaded_30 : decode cX10_isShaded 30 = .ok (.getfield 280, 3) := by decide +kernel
theorem dX10_isShaded_33 : decode cX10_isShaded 33 = .ok (.invokestatic 370, 3) := by decide +kernel
theorem dX10_isShaded_36 : decode cX10_isShaded 36 = .ok (.istore 5, 2) := by decide +kernel
theorem dX10_isShaded_38 : decode cX10_isShaded 38 = .ok (.aload_n 1, 1) := by decide +kernel
theorem dX10_isShaded_39 : decode cX10_isShaded 39 = .ok (.getfield 280, 3) := by decide +kernel
theorem dX10_isShaded_42 : decode cX10_isShaded 42 = .ok (.aload_n 2, 1) := by decide +kernel
theorem dX10_isShaded_43 : decode cX10_isShaded 43 = .ok (.getfield 280, 3) := by decide +kernel
theorem dX10_isShaded_46 : decode cX10_isShaded 46 = .ok (.invokestatic 159, 3) := by decide +kernel
theorem dX10_isShaded_49 : decode cX10_isShaded 49 = .ok (.istore 6, 2) := by decide +kernel
theorem dX10_isShaded_51 : decode cX10_isShaded 51 = .ok (.iload 5, 2) := by decide +kernel
theorem dX10_isShaded_53 : decode cX10_isShaded 53 = .ok (.istore 7, 2) := by decide +kernel
theorem dX10_isShaded_55 : decode cX10_isShaded 55 = .ok (.iload 7, 2) := by decide +kernel
theorem dX10_isShaded_57 : decode cX10_isShaded 57 = .ok (.iload 6, 2) := by decide +kernel
theorem dX10_isShaded_59 : decode cX10_isShaded 59 = .ok (.if_icmp .gt 74, 3) := by decide +kernel
theorem dX10_isShaded_62 : decode cX10_isShaded 62 = .ok (.iload_n 3, 1) := by decide +kernel
theorem dX10_isShaded_63 : decode cX10_isShaded 63 = .ok (.istore 8, 2) := by decide +kernel
theorem dX10_isShaded_65 : decode cX10_isShaded 65 = .ok (.iload 8, 2) := by decide +kernel
theorem dX10_isShaded_67 : decode cX10_isShaded 67 = .ok (.iload 4, 2) := by decide +kernel
theorem dX10_isShaded_69 : decode cX10_isShaded 69 = .ok (.if_icmp .gt 58, 3) := by decide +kernel
theorem dX10_isShaded_72 : decode cX10_isShaded 72 = .ok (.bipush 8, 2) := by decide +kernel
theorem dX10_isShaded_74 : decode cX10_isShaded 74 = .ok (.iload 7, 2) := by decide +kernel
theorem dX10_isShaded_76 : decode cX10_isShaded 76 = .ok (.imul, 1) := by decide +kernel
theorem dX10_isShaded_77 : decode cX10_isShaded 77 = .ok (.iload 8, 2) := by decide +kernel
theorem dX10_isShaded_79 : decode cX10_isShaded 79 = .ok (.iadd, 1) := by decide +kernel
theorem dX10_isShaded_80 : decode cX10_isShaded 80 = .ok (.istore 9, 2) := by decide +kernel
theorem dX10_isShaded_82 : decode cX10_isShaded 82 = .ok (.iload 9, 2) := by decide +kernel
theorem dX10_isShaded_84 : decode cX10_isShaded 84 = .ok (.ifCond .lt 37, 3) := by decide +kernel
theorem dX10_isShaded_87 : decode cX10_isShaded 87 = .ok (.iload 9, 2) := by decide +kernel
theorem dX10_isShaded_89 : decode cX10_isShaded 89 = .ok (.aload_n 0, 1) := by decide +kernel
theorem dX10_isShaded_90 : decode cX10_isShaded 90 = .ok (.getfield 16, 3) := by decide +kernel
theorem dX10_isShaded_93 : decode cX10_isShaded 93 = .ok (.invokevirtual 118, 3) := by decide +kernel
theorem dX10_isShaded_96 : decode cX10_isShaded 96 = .ok (.if_icmp .ge 25, 3) := by decide +kernel
theorem dX10_isShaded_99 : decode cX10_isShaded 99 = .ok (.aload_n 0, 1) := by decide +kernel
theorem dX10_isShaded_100 : decode cX10_isShaded 100 = .ok (.getfield 16, 3) := by decide +kernel
theorem dX10_isShaded_103 : decode cX10_isShaded 103 = .ok (.iload 9, 2) := by decide +kernel
theorem dX10_isShaded_105 : decode cX10_isShaded 105 = .ok (.invokevirtual 191, 3) := by decide +kernel
theorem dX10_isShaded_108 : decode cX10_isShaded 108 = .ok (.checkcast 61, 3) := by decide +kernel
theorem dX10_isShaded_111 : decode cX10_isShaded 111 = .ok (.aload_n 1, 1) := by decide +kernel
theorem dX10_isShaded_112 : decode cX10_isShaded 112 = .ok (.aload_n 2, 1) := by decide +kernel
theorem dX10_isShaded_113 : decode cX10_isShaded 113 = .ok (.invokevirtual 373, 3) := by decide +kernel
theorem dX10_isShaded_116 : decode cX10_isShaded 116 = .ok (.ifCond .eq 5, 3) := by decide +kernel
theorem dX10_isShaded_119 : decode cX10_isShaded 119 = .ok (.iconst 1, 1) := by decide +kernel
theorem dX10_isShaded_120 : decode cX10_isShaded 120 = .ok (.ireturn, 1) := by decide +kernel
theorem dX10_isShaded_121 : decode cX10_isShaded 121 = .ok (.iinc 8 1, 3) := by decide +kernel
theorem dX10_isShaded_124 : decode cX10_isShaded 124 = .ok (.goto (-59), 3) := by decide +kernel
theorem dX10_isShaded_127 : decode cX10_isShaded 127 = .ok (.iinc 7 1, 3) := by decide +kernel
theorem dX10_isShaded_130 : decode cX10_isShaded 130 = .ok (.goto (-75), 3) := by decide +kernel
theorem dX10_isShaded_133 : decode cX10_isShaded 133 = .ok (.iconst 0, 1) := by decide +kernel
theorem dX10_isShaded_134 : decode cX10_isShaded 134 = .ok (.ireturn, 1) := by decide +kernel
theorem dX10_planCost_0 : decode cX10_planCost 0 = .ok (.aload_n 1, 1) := by decide +kernel
theorem dX10_planCost_1 : decode cX10_planCost 1 = .ok (.aload_n 0, 1) := by decide +kernel
theorem dX10_planCost_2 : decode cX10_planCost 2 = .ok (.getfield 108, 3) := by decide +kernel
theorem dX10_planCost_5 : decode cX10_planCost 5 = .ok (.invokevirtual 143, 3) := by decide +kernel
theorem dX10_planCost_8 : decode cX10_planCost 8 = .ok (.ifCond .le 9, 3) := by decide +kernel
theorem dX10_planCost_11 : decode cX10_planCost 11 = .ok (.sipush 10001, 3) := by decide +kernel
theorem dX10_planCost_14 : decode cX10_planCost 14 = .ok (.goto 13, 3) := by decide +kernel
theorem dX10_planCost_17 : decode cX10_planCost 17 = .ok (.aload_n 1, 1) := by decide +kernel
theorem dX10_planCost_18 : decode cX10_planCost 18 = .ok (.bipush 10, 2) := by decide +kernel
theorem dX10_planCost_20 : decode cX10_planCost 20 = .ok (.aload_n 1, 1) := by decide +kernel
theorem dX10_planCost_21 : decode cX10_planCost 21 = .ok (.getfield 172, 3) := by decide +kernel
theorem dX10_planCost_24 : decode cX10_planCost 24 = .ok (.invokevirtual 178, 3) := by decide +kernel
theorem dX10_planCost_27 : decode cX10_planCost 27 = .ok (.ireturn, 1) := by decide +kernel
theorem dJ15_checkIndex_7cf53_0 : decode cJ15_checkIndex_7cf53 0 = .ok (.iload_n 0, 1) := by decide +kernel
theorem dJ15_checkIndex_7cf53_1 : decode cJ15_checkIndex_7cf53 1 = .ok (.iload_n 1, 1) := by decide +kernel
theorem dJ15_checkIndex_7cf53_2 : decode cJ15_checkIndex_7cf53 2 = .ok (.aconst_null, 1) := by decide +kernel
theorem dJ15_checkIndex_7cf53_3 : decode cJ15_checkIndex_7cf53 3 = .ok (.invokestatic 105, 3) := by decide +kernel
theorem dJ15_checkIndex_7cf53_6 : decode cJ15_checkIndex_7cf53 6 = .ok (.ireturn, 1) := by decide +kernel
theorem dJ3_checkIndex_8e157_0 : decode cJ3_checkIndex_8e157 0 = .ok (.iload_n 0, 1) := by decide +kernel
theorem dJ3_checkIndex_8e157_1 : decode cJ3_checkIndex_8e157 1 = .ok (.ifCond .lt 8, 3) := by decide +kernel
theorem dJ3_checkIndex_8e157_4 : decode cJ3_checkIndex_8e157 4 = .ok (.iload_n 0, 1) := by decide +kernel
theorem dJ3_checkIndex_8e157_5 : decode cJ3_checkIndex_8e157 5 = .ok (.iload_n 1, 1) := by decide +kernel
theorem dJ3_checkIndex_8e157_6 : decode cJ3_checkIndex_8e157 6 = .ok (.if_icmp .lt 10, 3) := by decide +kernel
theorem dJ3_checkIndex_8e157_9 : decode cJ3_checkIndex_8e157 9 = .ok (.aload_n 2, 1) := by decide +kernel
theorem dJ3_checkIndex_8e157_10 : decode cJ3_checkIndex_8e157 10 = .ok (.iload_n 0, 1) := by decide +kernel
theorem dJ3_checkIndex_8e157_11 : decode cJ3_checkIndex_8e157 11 = .ok (.iload_n 1, 1) := by decide +kernel
theorem dJ3_checkIndex_8e157_12 : decode cJ3_checkIndex_8e157 12 = .ok (.invokestatic 95, 3) := by decide +kernel
theorem dJ3_checkIndex_8e157_15 : decode cJ3_checkIndex_8e157 15 = .ok (.athrow, 1) := by decide +kernel
theorem dJ3_checkIndex_8e157_16 : decode cJ3_checkIndex_8e157 16 = .ok (.iload_n 0, 1) := by decide +kernel
theorem dJ3_checkIndex_8e157_17 : decode cJ3_checkIndex_8e157 17 = .ok (.ireturn, 1) := by decide +kernel
theorem dJ7_fill_53178_0 : decode cJ7_fill_53178 0 = .ok (.iconst 0, 1) := by decide +kernel
theorem dJ7_fill_53178_1 : decode cJ7_fill_53178 1 = .ok (.istore_n 2, 1) := by decide +kernel
theorem dJ7_fill_53178_2 : decode cJ7_fill_53178 2 = .ok (.aload_n 0, 1) := by decide +kernel
theorem dJ7_fill_53178_3 : decode cJ7_fill_53178 3 = .ok (.arraylength, 1) := by decide +kernel
theorem dJ7_fill_53178_4 : decode cJ7_fill_53178 4 = .ok (.istore_n 3, 1) := by decide +kernel
theorem dJ7_fill_53178_5 : decode cJ7_fill_53178 5 = .ok (.iload_n 2, 1) := by decide +kernel
theorem dJ7_fill_53178_6 : decode cJ7_fill_53178 6 = .ok (.iload_n 3, 1) := by decide +kernel
theorem dJ7_fill_53178_7 : decode cJ7_fill_53178 7 = .ok (.if_icmp .ge 13, 3) := by decide +kernel
theorem dJ7_fill_53178_10 : decode cJ7_fill_53178 10 = .ok (.aload_n 0, 1) := by decide +kernel
theorem dJ7_fill_53178_11 : decode cJ7_fill_53178 11 = .ok (.iload_n 2, 1) := by decide +kernel
theorem dJ7_fill_53178_12 : decode cJ7_fill_53178 12 = .ok (.iload_n 1, 1) := by decide +kernel
theorem dJ7_fill_53178_13 : decode cJ7_fill_53178 13 = .ok (.iastore, 1) := by decide +kernel
theorem dJ7_fill_53178_14 : decode cJ7_fill_53178 14 = .ok (.iinc 2 1, 3) := by decide +kernel
theorem dJ7_fill_53178_17 : decode cJ7_fill_53178 17 = .ok (.goto (-12), 3) := by decide +kernel
theorem dJ7_fill_53178_20 : decode cJ7_fill_53178 20 = .ok (.return_, 1) := by decide +kernel
theorem dJ7_copyOf_1904c_0 : decode cJ7_copyOf_1904c 0 = .ok (.aload_n 0, 1) := by decide +kernel
theorem dJ7_copyOf_1904c_1 : decode cJ7_copyOf_1904c 1 = .ok (.iload_n 1, 1) := by decide +kernel
theorem dJ7_copyOf_1904c_2 : decode cJ7_copyOf_1904c 2 = .ok (.aload_n 0, 1) := by decide +kernel
theorem dJ7_copyOf_1904c_3 : decode cJ7_copyOf_1904c 3 = .ok (.invokevirtual 86, 3) := by decide +kernel
theorem dJ7_copyOf_1904c_6 : decode cJ7_copyOf_1904c 6 = .ok (.invokestatic 300, 3) := by decide +kernel
theorem dJ7_copyOf_1904c_9 : decode cJ7_copyOf_1904c 9 = .ok (.areturn, 1) := by decide +kernel
theorem dJ7_copyOf_6403c_0 : decode cJ7_copyOf_6403c 0 = .ok (.aload_n 2, 1) := by decide +kernel
theorem dJ7_copyOf_6403c_1 : decode cJ7_copyOf_6403c 1 = .ok (.ldc 110, 2) := by decide +kernel
theorem dJ7_copyOf_6403c_3 : decode cJ7_copyOf_6403c 3 = .ok (.if_acmp .ne 10, 3) := by decide +kernel
theorem dJ7_copyOf_6403c_6 : decode cJ7_copyOf_6403c 6 = .ok (.iload_n 1, 1) := by decide +kernel
theorem dJ7_copyOf_6403c_7 : decode cJ7_copyOf_6403c 7 = .ok (.anewarray 2, 3) := by decide +kernel
theorem dJ7_copyOf_6403c_10 : decode cJ7_copyOf_6403c 10 = .ok (.goto 14, 3) := by decide +kernel
theorem dJ7_copyOf_6403c_13 : decode cJ7_copyOf_6403c 13 = .ok (.aload_n 2, 1) := by decide +kernel
theorem dJ7_copyOf_6403c_14 : decode cJ7_copyOf_6403c 14 = .ok (.invokevirtual 90, 3) := by decide +kernel
theorem dJ7_copyOf_6403c_17 : decode cJ7_copyOf_6403c 17 = .ok (.iload_n 1, 1) := by decide +kernel
theorem dJ7_copyOf_6403c_18 : decode cJ7_copyOf_6403c 18 = .ok (.invokestatic 95, 3) := by decide +kernel
theorem dJ7_copyOf_6403c_21 : decode cJ7_copyOf_6403c 21 = .ok (.checkcast 110, 3) := by decide +kernel
theorem dJ7_copyOf_6403c_24 : decode cJ7_copyOf_6403c 24 = .ok (.astore_n 3, 1) := by decide +kernel
theorem dJ7_copyOf_6403c_25 : decode cJ7_copyOf_6403c 25 = .ok (.aload_n 0, 1) := by decide +kernel
theorem dJ7_copyOf_6403c_26 : decode cJ7_copyOf_6403c 26 = .ok (.iconst 0, 1) := by decide +kernel
theorem dJ7_copyOf_6403c_27 : decode cJ7_copyOf_6403c 27 = .ok (.aload_n 3, 1) := by decide +kernel
theorem dJ7_copyOf_6403c_28 : decode cJ7_copyOf_6403c 28 = .ok (.iconst 0, 1) := by decide +kernel
theorem dJ7_copyOf_6403c_29 : decode cJ7_copyOf_6403c 29 = .ok (.aload_n 0, 1) := by decide +kernel
theorem dJ7_copyOf_6403c_30 : decode cJ7_copyOf_6403c 30 = .ok (.arraylength, 1) := by decide +kernel
theorem dJ7_copyOf_6403c_31 : decode cJ7_copyOf_6403c 31 = .ok (.iload_n 1, 1) := by decide +kernel
theorem dJ7_copyOf_6403c_32 : decode cJ7_copyOf_6403c 32 = .ok (.invokestatic 304, 3) := by decide +kernel
theorem dJ7_copyOf_6403c_35 : decode cJ7_copyOf_6403c 35 = .ok (.invokestatic 150, 3) := by decide +kernel
theorem dJ7_copyOf_6403c_38 : decode cJ7_copyOf_6403c 38 = .ok (.aload_n 3, 1) := by decide +kernel
theorem dJ7_copyOf_6403c_39 : decode cJ7_copyOf_6403c 39 = .ok (.areturn, 1) := by decide +kernel
theorem dJ8_newLength_cabcc_0 : decode cJ8_newLength_cabcc 0 = .ok (.iload_n 0, 1) := by decide +kernel
theorem dJ8_newLength_cabcc_1 : decode cJ8_newLength_cabcc 1 = .ok (.iload_n 1, 1) := by decide +kernel
theorem dJ8_newLength_cabcc_2 : decode cJ8_newLength_cabcc 2 = .ok (.iload_n 2, 1) := by decide +kernel
theorem dJ8_newLength_cabcc_3 : decode cJ8_newLength_cabcc 3 = .ok (.invokestatic 194, 3) := by decide +kernel
theorem dJ8_newLength_cabcc_6 : decode cJ8_newLength_cabcc 6 = .ok (.iadd, 1) := by decide +kernel
theorem dJ8_newLength_cabcc_7 : decode cJ8_newLength_cabcc 7 = .ok (.istore_n 3, 1) := by decide +kernel
theorem dJ8_newLength_cabcc_8 : decode cJ8_newLength_cabcc 8 = .ok (.iconst 0, 1) := by decide +kernel
theorem dJ8_newLength_cabcc_9 : decode cJ8_newLength_cabcc 9 = .ok (.iload_n 3, 1) := by decide +kernel
theorem dJ8_newLength_cabcc_10 : decode cJ8_newLength_cabcc 10 = .ok (.if_icmp .ge 11, 3) := by decide +kernel
theorem dJ8_newLength_cabcc_13 : decode cJ8_newLength_cabcc 13 = .ok (.iload_n 3, 1) := by decide +kernel
theorem dJ8_newLength_cabcc_14 : decode cJ8_newLength_cabcc 14 = .ok (.ldc 200, 2) := by decide +kernel
theorem dJ8_newLength_cabcc_16 : decode cJ8_newLength_cabcc 16 = .ok (.if_icmp .gt 5, 3) := by decide +kernel
theorem dJ8_newLength_cabcc_19 : decode cJ8_newLength_cabcc 19 = .ok (.iload_n 3, 1) := by decide +kernel
theorem dJ8_newLength_cabcc_20 : decode cJ8_newLength_cabcc 20 = .ok (.ireturn, 1) := by decide +kernel
theorem dJ8_newLength_cabcc_21 : decode cJ8_newLength_cabcc 21 = .ok (.iload_n 0, 1) := by decide +kernel
theorem dJ8_newLength_cabcc_22 : decode cJ8_newLength_cabcc 22 = .ok (.iload_n 1, 1) := by decide +kernel
theorem dJ8_newLength_cabcc_23 : decode cJ8_newLength_cabcc 23 = .ok (.invokestatic 201, 3) := by decide +kernel
theorem dJ8_newLength_cabcc_26 : decode cJ8_newLength_cabcc 26 = .ok (.ireturn, 1) := by decide +kernel
theorem dJ8_hugeLength_7cf53_0 : decode cJ8_hugeLength_7cf53 0 = .ok (.iload_n 0, 1) := by decide +kernel
theorem dJ8_hugeLength_7cf53_1 : decode cJ8_hugeLength_7cf53 1 = .ok (.iload_n 1, 1) := by decide +kernel
theorem dJ8_hugeLength_7cf53_2 : decode cJ8_hugeLength_7cf53 2 = .ok (.iadd, 1) := by decide +kernel
theorem dJ8_hugeLength_7cf53_3 : decode cJ8_hugeLength_7cf53 3 = .ok (.istore_n 2, 1) := by decide +kernel
theorem dJ8_hugeLength_7cf53_4 : decode cJ8_hugeLength_7cf53 4 = .ok (.iload_n 2, 1) := by decide +kernel
theorem dJ8_hugeLength_7cf53_5 : decode cJ8_hugeLength_7cf53 5 = .ok (.ifCond .ge 44, 3) := by decide +kernel
theorem dJ8_hugeLength_7cf53_8 : decode cJ8_hugeLength_7cf53 8 = .ok (.new 204, 3) := by decide +kernel
theorem dJ8_hugeLength_7cf53_11 : decode cJ8_hugeLength_7cf53 11 = .ok (.dup, 1) := by decide +kernel
theorem dJ8_hugeLength_7cf53_12 : decode cJ8_hugeLength_7cf53 12 = .ok (.new 89, 3) := by decide +kernel
theorem dJ8_hugeLength_7cf53_15 : decode cJ8_hugeLength_7cf53 15 = .ok (.dup, 1) := by decide +kernel
theorem dJ8_hugeLength_7cf53_16 : decode cJ8_hugeLength_7cf53 16 = .ok (.invokespecial 91, 3) := by decide +kernel
theorem dJ8_hugeLength_7cf53_19 : decode cJ8_hugeLength_7cf53 19 = .ok (.ldc 206, 2) := by decide +kernel
theorem dJ8_hugeLength_7cf53_21 : decode cJ8_hugeLength_7cf53 21 = .ok (.invokevirtual 94, 3) := by decide +kernel
theorem dJ8_hugeLength_7cf53_24 : decode cJ8_hugeLength_7cf53 24 = .ok (.iload_n 0, 1) := by decide +kernel
theorem dJ8_hugeLength_7cf53_25 : decode cJ8_hugeLength_7cf53 25 = .ok (.invokevirtual 98, 3) := by decide +kernel
theorem dJ8_hugeLength_7cf53_28 : decode cJ8_hugeLength_7cf53 28 = .ok (.ldc 208, 2) := by decide +kernel
theorem dJ8_hugeLength_7cf53_30 : decode cJ8_hugeLength_7cf53 30 = .ok (.invokevirtual 94, 3) := by decide +kernel
theorem dJ8_hugeLength_7cf53_33 : decode cJ8_hugeLength_7cf53 33 = .ok (.iload_n 1, 1) := by decide +kernel
theorem dJ8_hugeLength_7cf53_34 : decode cJ8_hugeLength_7cf53 34 = .ok (.invokevirtual 98, 3) := by decide +kernel
theorem dJ8_hugeLength_7cf53_37 : decode cJ8_hugeLength_7cf53 37 = .ok (.ldc 210, 2) := by decide +kernel
theorem dJ8_hugeLength_7cf53_39 : decode cJ8_hugeLength_7cf53 39 = .ok (.invokevirtual 94, 3) := by decide +kernel
theorem dJ8_hugeLength_7cf53_42 : decode cJ8_hugeLength_7cf53 42 = .ok (.invokevirtual 101, 3) := by decide +kernel
theorem dJ8_hugeLength_7cf53_45 : decode cJ8_hugeLength_7cf53 45 = .ok (.invokespecial 212, 3) := by decide +kernel
theorem dJ8_hugeLength_7cf53_48 : decode cJ8_hugeLength_7cf53 48 = .ok (.athrow, 1) := by decide +kernel
theorem dJ8_hugeLength_7cf53_49 : decode cJ8_hugeLength_7cf53 49 = .ok (.iload_n 2, 1) := by decide +kernel
theorem dJ8_hugeLength_7cf53_50 : decode cJ8_hugeLength_7cf53 50 = .ok (.ldc 200, 2) := by decide +kernel
theorem dJ8_hugeLength_7cf53_52 : decode cJ8_hugeLength_7cf53 52 = .ok (.if_icmp .gt 6, 3) := by decide +kernel
theorem dJ8_hugeLength_7cf53_55 : decode cJ8_hugeLength_7cf53 55 = .ok (.ldc 200, 2) := by decide +kernel
theorem dJ8_hugeLength_7cf53_57 : decode cJ8_hugeLength_7cf53 57 = .ok (.ireturn, 1) := by decide +kernel
theorem dJ8_hugeLength_7cf53_58 : decode cJ8_hugeLength_7cf53 58 = .ok (.iload_n 2, 1) := by decide +kernel
theorem dJ8_hugeLength_7cf53_59 : decode cJ8_hugeLength_7cf53 59 = .ok (.ireturn, 1) := by decide +kernel
theorem dJ9_abs_0f7a4_0 : decode cJ9_abs_0f7a4 0 = .ok (.iload_n 0, 1) := by decide +kernel
theorem dJ9_abs_0f7a4_1 : decode cJ9_abs_0f7a4 1 = .ok (.ifCond .ge 8, 3) := by decide +kernel
theorem dJ9_abs_0f7a4_4 : decode cJ9_abs_0f7a4 4 = .ok (.iload_n 0, 1) := by decide +kernel
theorem dJ9_abs_0f7a4_5 : decode cJ9_abs_0f7a4 5 = .ok (.ineg, 1) := by decide +kernel
theorem dJ9_abs_0f7a4_6 : decode cJ9_abs_0f7a4 6 = .ok (.goto 4, 3) := by decide +kernel
theorem dJ9_abs_0f7a4_9 : decode cJ9_abs_0f7a4 9 = .ok (.iload_n 0, 1) := by decide +kernel
theorem dJ9_abs_0f7a4_10 : decode cJ9_abs_0f7a4 10 = .ok (.ireturn, 1) := by decide +kernel
theorem dJ9_max_7cf53_0 : decode cJ9_max_7cf53 0 = .ok (.iload_n 0, 1) := by decide +kernel
theorem dJ9_max_7cf53_1 : decode cJ9_max_7cf53 1 = .ok (.iload_n 1, 1) := by decide +kernel
theorem dJ9_max_7cf53_2 : decode cJ9_max_7cf53 2 = .ok (.if_icmp .lt 7, 3) := by decide +kernel
theorem dJ9_max_7cf53_5 : decode cJ9_max_7cf53 5 = .ok (.iload_n 0, 1) := by decide +kernel
theorem dJ9_max_7cf53_6 : decode cJ9_max_7cf53 6 = .ok (.goto 4, 3) := by decide +kernel
theorem dJ9_max_7cf53_9 : decode cJ9_max_7cf53 9 = .ok (.iload_n 1, 1) := by decide +kernel
theorem dJ9_max_7cf53_10 : decode cJ9_max_7cf53 10 = .ok (.ireturn, 1) := by decide +kernel
theorem dJ9_min_7cf53_0 : decode cJ9_min_7cf53 0 = .ok (.iload_n 0, 1) := by decide +kernel
theorem dJ9_min_7cf53_1 : decode cJ9_min_7cf53 1 = .ok (.iload_n 1, 1) := by decide +kernel
theorem dJ9_min_7cf53_2 : decode cJ9_min_7cf53 2 = .ok (.if_icmp .gt 7, 3) := by decide +kernel
theorem dJ9_min_7cf53_5 : decode cJ9_min_7cf53 5 = .ok (.iload_n 0, 1) := by decide +kernel
theorem dJ9_min_7cf53_6 : decode cJ9_min_7cf53 6 = .ok (.goto 4, 3) := by decide +kernel
theorem dJ9_min_7cf53_9 : decode cJ9_min_7cf53 9 = .ok (.iload_n 1, 1) := by decide +kernel
theorem dJ9_min_7cf53_10 : decode cJ9_min_7cf53 10 = .ok (.ireturn, 1) := by decide +kernel
theorem dJx4a65c_init_da8c8_0 : decode cJx4a65c_init_da8c8 0 = .ok (.aload_n 0, 1) := by decide +kernel
theorem dJx4a65c_init_da8c8_1 : decode cJx4a65c_init_da8c8 1 = .ok (.invokespecial 1, 3) := by decide +kernel
theorem dJx4a65c_init_da8c8_4 : decode cJx4a65c_init_da8c8 4 = .ok (.aload_n 0, 1) := by decide +kernel
theorem dJx4a65c_init_da8c8_5 : decode cJx4a65c_init_da8c8 5 = .ok (.getstatic 39, 3) := by decide +kernel
theorem dJx4a65c_init_da8c8_8 : decode cJx4a65c_init_da8c8 8 = .ok (.putfield 9, 3) := by decide +kernel
theorem dJx4a65c_init_da8c8_11 : decode cJx4a65c_init_da8c8 11 = .ok (.return_, 1) := by decide +kernel
theorem dJx4a65c_grow_92f84_0 : decode cJx4a65c_grow_92f84 0 = .ok (.aload_n 0, 1) := by decide +kernel
theorem dJx4a65c_grow_92f84_1 : decode cJx4a65c_grow_92f84 1 = .ok (.getfield 9, 3) := by decide +kernel
theorem dJx4a65c_grow_92f84_4 : decode cJx4a65c_grow_92f84 4 = .ok (.arraylength, 1) := by decide +kernel
theorem dJx4a65c_grow_92f84_5 : decode cJx4a65c_grow_92f84 5 = .ok (.istore_n 2, 1) := by decide +kernel
theorem dJx4a65c_grow_92f84_6 : decode cJx4a65c_grow_92f84 6 = .ok (.iload_n 2, 1) := by decide +kernel
theorem dJx4a65c_grow_92f84_7 : decode cJx4a65c_grow_92f84 7 = .ok (.ifCond .gt 13, 3) := by decide +kernel
theorem dJx4a65c_grow_92f84_10 : decode cJx4a65c_grow_92f84 10 = .ok (.aload_n 0, 1) := by decide +kernel
theorem dJx4a65c_grow_92f84_11 : decode cJx4a65c_grow_92f84 11 = .ok (.getfield 9, 3) := by decide +kernel
theorem dJx4a65c_grow_92f84_14 : decode cJx4a65c_grow_92f84 14 = .ok (.getstatic 39, 3) := by decide +kernel
theorem dJx4a65c_grow_92f84_17 : decode cJx4a65c_grow_92f84 17 = .ok (.if_acmp .eq 28, 3) := by decide +kernel
theorem dJx4a65c_grow_92f84_20 : decode cJx4a65c_grow_92f84 20 = .ok (.iload_n 2, 1) := by decide +kernel
theorem dJx4a65c_grow_92f84_21 : decode cJx4a65c_grow_92f84 21 = .ok (.iload_n 1, 1) := by decide +kernel
theorem dJx4a65c_grow_92f84_22 : decode cJx4a65c_grow_92f84 22 = .ok (.iload_n 2, 1) := by decide +kernel
theorem dJx4a65c_grow_92f84_23 : decode cJx4a65c_grow_92f84 23 = .ok (.isub, 1) := by decide +kernel
theorem dJx4a65c_grow_92f84_24 : decode cJx4a65c_grow_92f84 24 = .ok (.iload_n 2, 1) := by decide +kernel
theorem dJx4a65c_grow_92f84_25 : decode cJx4a65c_grow_92f84 25 = .ok (.iconst 1, 1) := by decide +kernel
theorem dJx4a65c_grow_92f84_26 : decode cJx4a65c_grow_92f84 26 = .ok (.ishr, 1) := by decide +kernel
theorem dJx4a65c_grow_92f84_27 : decode cJx4a65c_grow_92f84 27 = .ok (.invokestatic 73, 3) := by decide +kernel
theorem dJx4a65c_grow_92f84_30 : decode cJx4a65c_grow_92f84 30 = .ok (.istore_n 3, 1) := by decide +kernel
theorem dJx4a65c_grow_92f84_31 : decode cJx4a65c_grow_92f84 31 = .ok (.aload_n 0, 1) := by decide +kernel
theorem dJx4a65c_grow_92f84_32 : decode cJx4a65c_grow_92f84 32 = .ok (.aload_n 0, 1) := by decide +kernel
theorem dJx4a65c_grow_92f84_33 : decode cJx4a65c_grow_92f84 33 = .ok (.getfield 9, 3) := by decide +kernel
theorem dJx4a65c_grow_92f84_36 : decode cJx4a65c_grow_92f84 36 = .ok (.iload_n 3, 1) := by decide +kernel
theorem dJx4a65c_grow_92f84_37 : decode cJx4a65c_grow_92f84 37 = .ok (.invokestatic 66, 3) := by decide +kernel
theorem dJx4a65c_grow_92f84_40 : decode cJx4a65c_grow_92f84 40 = .ok (.dup_x1, 1) := by decide +kernel
theorem dJx4a65c_grow_92f84_41 : decode cJx4a65c_grow_92f84 41 = .ok (.putfield 9, 3) := by decide +kernel
theorem dJx4a65c_grow_92f84_44 : decode cJx4a65c_grow_92f84 44 = .ok (.areturn, 1) := by decide +kernel
theorem dJx4a65c_grow_92f84_45 : decode cJx4a65c_grow_92f84 45 = .ok (.aload_n 0, 1) := by decide +kernel
theorem dJx4a65c_grow_92f84_46 : decode cJx4a65c_grow_92f84 46 = .ok (.bipush 10, 2) := by decide +kernel
