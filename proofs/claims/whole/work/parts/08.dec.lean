theorem dX11_isHeld_16 : decode cX11_isHeld 16 = .ok (.iconst 0, 1) := by decide +kernel
theorem dX11_isHeld_17 : decode cX11_isHeld 17 = .ok (.ireturn, 1) := by decide +kernel
theorem dX11_trails_0 : decode cX11_trails 0 = .ok (.iload_n 1, 1) := by decide +kernel
theorem dX11_trails_1 : decode cX11_trails 1 = .ok (.iconst 0, 1) := by decide +kernel
theorem dX11_trails_2 : decode cX11_trails 2 = .ok (.sipush 20000, 3) := by decide +kernel
theorem dX11_trails_5 : decode cX11_trails 5 = .ok (.invokestatic 111, 3) := by decide +kernel
theorem dX11_trails_8 : decode cX11_trails 8 = .ok (.ifCond .eq 18, 3) := by decide +kernel
theorem dX11_trails_11 : decode cX11_trails 11 = .ok (.iload_n 2, 1) := by decide +kernel
theorem dX11_trails_12 : decode cX11_trails 12 = .ok (.iconst 1, 1) := by decide +kernel
theorem dX11_trails_13 : decode cX11_trails 13 = .ok (.sipush 500, 3) := by decide +kernel
theorem dX11_trails_16 : decode cX11_trails 16 = .ok (.invokestatic 111, 3) := by decide +kernel
theorem dX11_trails_19 : decode cX11_trails 19 = .ok (.ifCond .eq 7, 3) := by decide +kernel
theorem dX11_trails_22 : decode cX11_trails 22 = .ok (.iconst 1, 1) := by decide +kernel
theorem dX11_trails_23 : decode cX11_trails 23 = .ok (.goto 4, 3) := by decide +kernel
theorem dX11_trails_26 : decode cX11_trails 26 = .ok (.iconst 0, 1) := by decide +kernel
theorem dX11_trails_27 : decode cX11_trails 27 = .ok (.istore_n 3, 1) := by decide +kernel
theorem dX11_trails_28 : decode cX11_trails 28 = .ok (.aload_n 0, 1) := by decide +kernel
theorem dX11_trails_29 : decode cX11_trails 29 = .ok (.iload_n 3, 1) := by decide +kernel
theorem dX11_trails_30 : decode cX11_trails 30 = .ok (.ifCond .eq 7, 3) := by decide +kernel
theorem dX11_trails_33 : decode cX11_trails 33 = .ok (.iconst 0, 1) := by decide +kernel
theorem dX11_trails_34 : decode cX11_trails 34 = .ok (.goto 4, 3) := by decide +kernel
theorem dX11_trails_37 : decode cX11_trails 37 = .ok (.iconst 1, 1) := by decide +kernel
theorem dX11_trails_38 : decode cX11_trails 38 = .ok (.invokevirtual 128, 3) := by decide +kernel
theorem dX11_trails_41 : decode cX11_trails 41 = .ok (.ifCond .eq 5, 3) := by decide +kernel
theorem dX11_trails_44 : decode cX11_trails 44 = .ok (.iconst 0, 1) := by decide +kernel
theorem dX11_trails_45 : decode cX11_trails 45 = .ok (.ireturn, 1) := by decide +kernel
theorem dX11_trails_46 : decode cX11_trails 46 = .ok (.iconst 0, 1) := by decide +kernel
theorem dX11_trails_47 : decode cX11_trails 47 = .ok (.istore 4, 2) := by decide +kernel
theorem dX11_trails_49 : decode cX11_trails 49 = .ok (.iload_n 1, 1) := by decide +kernel
theorem dX11_trails_50 : decode cX11_trails 50 = .ok (.istore 5, 2) := by decide +kernel
theorem dX11_trails_52 : decode cX11_trails 52 = .ok (.iload 5, 2) := by decide +kernel
theorem dX11_trails_54 : decode cX11_trails 54 = .ok (.iload_n 1, 1) := by decide +kernel
theorem dX11_trails_55 : decode cX11_trails 55 = .ok (.iload_n 2, 1) := by decide +kernel
theorem dX11_trails_56 : decode cX11_trails 56 = .ok (.iadd, 1) := by decide +kernel
theorem dX11_trails_57 : decode cX11_trails 57 = .ok (.if_icmp .ge 72, 3) := by decide +kernel
theorem dX11_trails_60 : decode cX11_trails 60 = .ok (.iconst 0, 1) := by decide +kernel
theorem dX11_trails_61 : decode cX11_trails 61 = .ok (.istore 6, 2) := by decide +kernel
theorem dX11_trails_63 : decode cX11_trails 63 = .ok (.iload 6, 2) := by decide +kernel
theorem dX11_trails_65 : decode cX11_trails 65 = .ok (.aload_n 0, 1) := by decide +kernel
theorem dX11_trails_66 : decode cX11_trails 66 = .ok (.getfield 200, 3) := by decide +kernel
theorem dX11_trails_69 : decode cX11_trails 69 = .ok (.if_icmp .ge 54, 3) := by decide +kernel
theorem dX11_trails_72 : decode cX11_trails 72 = .ok (.iload 4, 2) := by decide +kernel
theorem dX11_trails_74 : decode cX11_trails 74 = .ok (.iload 5, 2) := by decide +kernel
theorem dX11_trails_76 : decode cX11_trails 76 = .ok (.aload_n 0, 1) := by decide +kernel
theorem dX11_trails_77 : decode cX11_trails 77 = .ok (.getfield 98, 3) := by decide +kernel
theorem dX11_trails_80 : decode cX11_trails 80 = .ok (.iload 6, 2) := by decide +kernel
theorem dX11_trails_82 : decode cX11_trails 82 = .ok (.iaload, 1) := by decide +kernel
theorem dX11_trails_83 : decode cX11_trails 83 = .ok (.irem, 1) := by decide +kernel
theorem dX11_trails_84 : decode cX11_trails 84 = .ok (.aload_n 0, 1) := by decide +kernel
theorem dX11_trails_85 : decode cX11_trails 85 = .ok (.getfield 101, 3) := by decide +kernel
theorem dX11_trails_88 : decode cX11_trails 88 = .ok (.iload 6, 2) := by decide +kernel
theorem dX11_trails_90 : decode cX11_trails 90 = .ok (.iaload, 1) := by decide +kernel
theorem dX11_trails_91 : decode cX11_trails 91 = .ok (.if_icmp .ne 22, 3) := by decide +kernel
theorem dX11_trails_94 : decode cX11_trails 94 = .ok (.iload 5, 2) := by decide +kernel
theorem dX11_trails_96 : decode cX11_trails 96 = .ok (.bipush 24, 2) := by decide +kernel
theorem dX11_trails_98 : decode cX11_trails 98 = .ok (.irem, 1) := by decide +kernel
theorem dX11_trails_99 : decode cX11_trails 99 = .ok (.bipush 6, 2) := by decide +kernel
theorem dX11_trails_101 : decode cX11_trails 101 = .ok (.bipush 17, 2) := by decide +kernel
theorem dX11_trails_103 : decode cX11_trails 103 = .ok (.invokestatic 111, 3) := by decide +kernel
theorem dX11_trails_106 : decode cX11_trails 106 = .ok (.ifCond .ne 7, 3) := by decide +kernel
theorem dX11_trails_109 : decode cX11_trails 109 = .ok (.iconst 1, 1) := by decide +kernel
theorem dX11_trails_110 : decode cX11_trails 110 = .ok (.goto 4, 3) := by decide +kernel
theorem dX11_trails_113 : decode cX11_trails 113 = .ok (.iconst 0, 1) := by decide +kernel
theorem dX11_trails_114 : decode cX11_trails 114 = .ok (.iadd, 1) := by decide +kernel
theorem dX11_trails_115 : decode cX11_trails 115 = .ok (.istore 4, 2) := by decide +kernel
theorem dX11_trails_117 : decode cX11_trails 117 = .ok (.iinc 6 1, 3) := by decide +kernel
theorem dX11_trails_120 : decode cX11_trails 120 = .ok (.goto (-57), 3) := by decide +kernel
theorem dX11_trails_123 : decode cX11_trails 123 = .ok (.iinc 5 1, 3) := by decide +kernel
theorem dX11_trails_126 : decode cX11_trails 126 = .ok (.goto (-74), 3) := by decide +kernel
theorem dX11_trails_129 : decode cX11_trails 129 = .ok (.iload 4, 2) := by decide +kernel
theorem dX11_trails_131 : decode cX11_trails 131 = .ok (.ireturn, 1) := by decide +kernel
theorem dX11_culprit_0 : decode cX11_culprit 0 = .ok (.aload_n 0, 1) := by decide +kernel
theorem dX11_culprit_1 : decode cX11_culprit 1 = .ok (.iload_n 1, 1) := by decide +kernel
theorem dX11_culprit_2 : decode cX11_culprit 2 = .ok (.invokestatic 124, 3) := by decide +kernel
theorem dX11_culprit_5 : decode cX11_culprit 5 = .ok (.ifCond .eq 7, 3) := by decide +kernel
theorem dX11_culprit_8 : decode cX11_culprit 8 = .ok (.iconst 0, 1) := by decide +kernel
theorem dX11_culprit_9 : decode cX11_culprit 9 = .ok (.goto 4, 3) := by decide +kernel
theorem dX11_culprit_12 : decode cX11_culprit 12 = .ok (.iconst 1, 1) := by decide +kernel
theorem dX11_culprit_13 : decode cX11_culprit 13 = .ok (.invokevirtual 128, 3) := by decide +kernel
theorem dX11_culprit_16 : decode cX11_culprit 16 = .ok (.ifCond .eq 5, 3) := by decide +kernel
theorem dX11_culprit_19 : decode cX11_culprit 19 = .ok (.iconst 0, 1) := by decide +kernel
theorem dX11_culprit_20 : decode cX11_culprit 20 = .ok (.ireturn, 1) := by decide +kernel
theorem dX11_culprit_21 : decode cX11_culprit 21 = .ok (.iconst (-1), 1) := by decide +kernel
theorem dX11_culprit_22 : decode cX11_culprit 22 = .ok (.istore_n 2, 1) := by decide +kernel
theorem dX11_culprit_23 : decode cX11_culprit 23 = .ok (.iconst 0, 1) := by decide +kernel
theorem dX11_culprit_24 : decode cX11_culprit 24 = .ok (.istore_n 3, 1) := by decide +kernel
theorem dX11_culprit_25 : decode cX11_culprit 25 = .ok (.iconst 0, 1) := by decide +kernel
theorem dX11_culprit_26 : decode cX11_culprit 26 = .ok (.istore 4, 2) := by decide +kernel
theorem dX11_culprit_28 : decode cX11_culprit 28 = .ok (.iload 4, 2) := by decide +kernel
theorem dX11_culprit_30 : decode cX11_culprit 30 = .ok (.aload_n 0, 1) := by decide +kernel
theorem dX11_culprit_31 : decode cX11_culprit 31 = .ok (.getfield 118, 3) := by decide +kernel
theorem dX11_culprit_34 : decode cX11_culprit 34 = .ok (.if_icmp .ge 44, 3) := by decide +kernel
theorem dX11_culprit_37 : decode cX11_culprit 37 = .ok (.aload_n 0, 1) := by decide +kernel
theorem dX11_culprit_38 : decode cX11_culprit 38 = .ok (.iload 4, 2) := by decide +kernel
theorem dX11_culprit_40 : decode cX11_culprit 40 = .ok (.iload_n 1, 1) := by decide +kernel
theorem dX11_culprit_41 : decode cX11_culprit 41 = .ok (.invokevirtual 174, 3) := by decide +kernel
theorem dX11_culprit_44 : decode cX11_culprit 44 = .ok (.istore 5, 2) := by decide +kernel
theorem dX11_culprit_46 : decode cX11_culprit 46 = .ok (.iload 5, 2) := by decide +kernel
theorem dX11_culprit_48 : decode cX11_culprit 48 = .ok (.iload_n 3, 1) := by decide +kernel
theorem dX11_culprit_49 : decode cX11_culprit 49 = .ok (.if_icmp .le 8, 3) := by decide +kernel
theorem dX11_culprit_52 : decode cX11_culprit 52 = .ok (.iload 4, 2) := by decide +kernel
theorem dX11_culprit_54 : decode cX11_culprit 54 = .ok (.goto 4, 3) := by decide +kernel
theorem dX11_culprit_57 : decode cX11_culprit 57 = .ok (.iload_n 2, 1) := by decide +kernel
theorem dX11_culprit_58 : decode cX11_culprit 58 = .ok (.istore_n 2, 1) := by decide +kernel
theorem dX11_culprit_59 : decode cX11_culprit 59 = .ok (.iload 5, 2) := by decide +kernel
theorem dX11_culprit_61 : decode cX11_culprit 61 = .ok (.iload_n 3, 1) := by decide +kernel
theorem dX11_culprit_62 : decode cX11_culprit 62 = .ok (.if_icmp .le 8, 3) := by decide +kernel
theorem dX11_culprit_65 : decode cX11_culprit 65 = .ok (.iload 5, 2) := by decide +kernel
theorem dX11_culprit_67 : decode cX11_culprit 67 = .ok (.goto 4, 3) := by decide +kernel
theorem dX11_culprit_70 : decode cX11_culprit 70 = .ok (.iload_n 3, 1) := by decide +kernel
theorem dX11_culprit_71 : decode cX11_culprit 71 = .ok (.istore_n 3, 1) := by decide +kernel
theorem dX11_culprit_72 : decode cX11_culprit 72 = .ok (.iinc 4 1, 3) := by decide +kernel
theorem dX11_culprit_75 : decode cX11_culprit 75 = .ok (.goto (-47), 3) := by decide +kernel
theorem dX11_culprit_78 : decode cX11_culprit 78 = .ok (.iload_n 2, 1) := by decide +kernel
theorem dX11_culprit_79 : decode cX11_culprit 79 = .ok (.ireturn, 1) := by decide +kernel
theorem dX11_plan_0 : decode cX11_plan 0 = .ok (.aload_n 0, 1) := by decide +kernel
theorem dX11_plan_1 : decode cX11_plan 1 = .ok (.iload_n 1, 1) := by decide +kernel
theorem dX11_plan_2 : decode cX11_plan 2 = .ok (.invokevirtual 143, 3) := by decide +kernel
theorem dX11_plan_5 : decode cX11_plan 5 = .ok (.ifCond .eq 14, 3) := by decide +kernel
theorem dX11_plan_8 : decode cX11_plan 8 = .ok (.iload_n 2, 1) := by decide +kernel
theorem dX11_plan_9 : decode cX11_plan 9 = .ok (.invokestatic 124, 3) := by decide +kernel
theorem dX11_plan_12 : decode cX11_plan 12 = .ok (.ifCond .eq 7, 3) := by decide +kernel
theorem dX11_plan_15 : decode cX11_plan 15 = .ok (.iconst 1, 1) := by decide +kernel
theorem dX11_plan_16 : decode cX11_plan 16 = .ok (.goto 4, 3) := by decide +kernel
theorem dX11_plan_19 : decode cX11_plan 19 = .ok (.iconst 0, 1) := by decide +kernel
theorem dX11_plan_20 : decode cX11_plan 20 = .ok (.istore 4, 2) := by decide +kernel
theorem dX11_plan_22 : decode cX11_plan 22 = .ok (.aload_n 0, 1) := by decide +kernel
theorem dX11_plan_23 : decode cX11_plan 23 = .ok (.iload 4, 2) := by decide +kernel
theorem dX11_plan_25 : decode cX11_plan 25 = .ok (.ifCond .ne 7, 3) := by decide +kernel
theorem dX11_plan_28 : decode cX11_plan 28 = .ok (.iconst 1, 1) := by decide +kernel
theorem dX11_plan_29 : decode cX11_plan 29 = .ok (.goto 19, 3) := by decide +kernel
theorem dX11_plan_32 : decode cX11_plan 32 = .ok (.iload_n 3, 1) := by decide +kernel
theorem dX11_plan_33 : decode cX11_plan 33 = .ok (.iconst 0, 1) := by decide +kernel
theorem dX11_plan_34 : decode cX11_plan 34 = .ok (.sipush 10000, 3) := by decide +kernel
theorem dX11_plan_37 : decode cX11_plan 37 = .ok (.invokestatic 111, 3) := by decide +kernel
theorem dX11_plan_40 : decode cX11_plan 40 = .ok (.ifCond .eq 7, 3) := by decide +kernel
theorem dX11_plan_43 : decode cX11_plan 43 = .ok (.iconst 0, 1) := by decide +kernel
theorem dX11_plan_44 : decode cX11_plan 44 = .ok (.goto 4, 3) := by decide +kernel
theorem dX11_plan_47 : decode cX11_plan 47 = .ok (.iconst 2, 1) := by decide +kernel
theorem dX11_plan_48 : decode cX11_plan 48 = .ok (.invokevirtual 128, 3) := by decide +kernel
theorem dX11_plan_51 : decode cX11_plan 51 = .ok (.ifCond .eq 5, 3) := by decide +kernel
theorem dX11_plan_54 : decode cX11_plan 54 = .ok (.iconst 0, 1) := by decide +kernel
theorem dX11_plan_55 : decode cX11_plan 55 = .ok (.ireturn, 1) := by decide +kernel
theorem dX11_plan_56 : decode cX11_plan 56 = .ok (.iconst 0, 1) := by decide +kernel
theorem dX11_plan_57 : decode cX11_plan 57 = .ok (.istore 5, 2) := by decide +kernel
theorem dX11_plan_59 : decode cX11_plan 59 = .ok (.iconst 0, 1) := by decide +kernel
theorem dX11_plan_60 : decode cX11_plan 60 = .ok (.istore 6, 2) := by decide +kernel
theorem dX11_plan_62 : decode cX11_plan 62 = .ok (.iconst 0, 1) := by decide +kernel
theorem dX11_plan_63 : decode cX11_plan 63 = .ok (.istore 7, 2) := by decide +kernel
theorem dX11_plan_65 : decode cX11_plan 65 = .ok (.iconst 0, 1) := by decide +kernel
theorem dX11_plan_66 : decode cX11_plan 66 = .ok (.istore 8, 2) := by decide +kernel
theorem dX11_plan_68 : decode cX11_plan 68 = .ok (.iload 8, 2) := by decide +kernel
theorem dX11_plan_70 : decode cX11_plan 70 = .ok (.iconst 1, 1) := by decide +kernel
theorem dX11_plan_71 : decode cX11_plan 71 = .ok (.aload_n 0, 1) := by decide +kernel
theorem dX11_plan_72 : decode cX11_plan 72 = .ok (.iload_n 1, 1) := by decide +kernel
theorem dX11_plan_73 : decode cX11_plan 73 = .ok (.invokevirtual 146, 3) := by decide +kernel
theorem dX11_plan_76 : decode cX11_plan 76 = .ok (.ishl, 1) := by decide +kernel
theorem dX11_plan_77 : decode cX11_plan 77 = .ok (.if_icmp .ge 206, 3) := by decide +kernel
theorem dX11_plan_80 : decode cX11_plan 80 = .ok (.iconst 0, 1) := by decide +kernel
theorem dX11_plan_81 : decode cX11_plan 81 = .ok (.istore 9, 2) := by decide +kernel
theorem dX11_plan_83 : decode cX11_plan 83 = .ok (.iconst 0, 1) := by decide +kernel
theorem dX11_plan_84 : decode cX11_plan 84 = .ok (.istore 10, 2) := by decide +kernel
theorem dX11_plan_86 : decode cX11_plan 86 = .ok (.iconst 0, 1) := by decide +kernel
theorem dX11_plan_87 : decode cX11_plan 87 = .ok (.istore 11, 2) := by decide +kernel
theorem dX11_plan_89 : decode cX11_plan 89 = .ok (.iconst 0, 1) := by decide +kernel
theorem dX11_plan_90 : decode cX11_plan 90 = .ok (.istore 12, 2) := by decide +kernel
theorem dX11_plan_92 : decode cX11_plan 92 = .ok (.iload 12, 2) := by decide +kernel
theorem dX11_plan_94 : decode cX11_plan 94 = .ok (.aload_n 0, 1) := by decide +kernel
theorem dX11_plan_95 : decode cX11_plan 95 = .ok (.getfield 118, 3) := by decide +kernel
theorem dX11_plan_98 : decode cX11_plan 98 = .ok (.if_icmp .ge 103, 3) := by decide +kernel
theorem dX11_plan_101 : decode cX11_plan 101 = .ok (.aload_n 0, 1) := by decide +kernel
theorem dX11_plan_102 : decode cX11_plan 102 = .ok (.getfield 41, 3) := by decide +kernel
theorem dX11_plan_105 : decode cX11_plan 105 = .ok (.iload 12, 2) := by decide +kernel
theorem dX11_plan_107 : decode cX11_plan 107 = .ok (.iaload, 1) := by decide +kernel
theorem dX11_plan_108 : decode cX11_plan 108 = .ok (.iload_n 1, 1) := by decide +kernel
theorem dX11_plan_109 : decode cX11_plan 109 = .ok (.if_icmp .ne 86, 3) := by decide +kernel
theorem dX11_plan_112 : decode cX11_plan 112 = .ok (.iload 8, 2) := by decide +kernel
theorem dX11_plan_114 : decode cX11_plan 114 = .ok (.iload 9, 2) := by decide +kernel
theorem dX11_plan_116 : decode cX11_plan 116 = .ok (.ishr, 1) := by decide +kernel
theorem dX11_plan_117 : decode cX11_plan 117 = .ok (.iconst 1, 1) := by decide +kernel
theorem dX11_plan_118 : decode cX11_plan 118 = .ok (.iand, 1) := by decide +kernel
theorem dX11_plan_119 : decode cX11_plan 119 = .ok (.iconst 1, 1) := by decide +kernel
theorem dX11_plan_120 : decode cX11_plan 120 = .ok (.if_icmp .ne 7, 3) := by decide +kernel
theorem dX11_plan_123 : decode cX11_plan 123 = .ok (.iconst 1, 1) := by decide +kernel
theorem dX11_plan_124 : decode cX11_plan 124 = .ok (.goto 4, 3) := by decide +kernel
theorem dX11_plan_127 : decode cX11_plan 127 = .ok (.iconst 0, 1) := by decide +kernel
theorem dX11_plan_128 : decode cX11_plan 128 = .ok (.istore 13, 2) := by decide +kernel
theorem dX11_plan_130 : decode cX11_plan 130 = .ok (.iload 10, 2) := by decide +kernel
theorem dX11_plan_132 : decode cX11_plan 132 = .ok (.iload 13, 2) := by decide +kernel
theorem dX11_plan_134 : decode cX11_plan 134 = .ok (.ifCond .eq 13, 3) := by decide +kernel
theorem dX11_plan_137 : decode cX11_plan 137 = .ok (.aload_n 0, 1) := by decide +kernel
theorem dX11_plan_138 : decode cX11_plan 138 = .ok (.iload 12, 2) := by decide +kernel
theorem dX11_plan_140 : decode cX11_plan 140 = .ok (.iload_n 2, 1) := by decide +kernel
theorem dX11_plan_141 : decode cX11_plan 141 = .ok (.invokevirtual 174, 3) := by decide +kernel
theorem dX11_plan_144 : decode cX11_plan 144 = .ok (.goto 4, 3) := by decide +kernel
theorem dX11_plan_147 : decode cX11_plan 147 = .ok (.iconst 0, 1) := by decide +kernel
theorem dX11_plan_148 : decode cX11_plan 148 = .ok (.iadd, 1) := by decide +kernel
theorem dX11_plan_149 : decode cX11_plan 149 = .ok (.istore 10, 2) := by decide +kernel
theorem dX11_plan_151 : decode cX11_plan 151 = .ok (.iload 11, 2) := by decide +kernel
theorem dX11_plan_153 : decode cX11_plan 153 = .ok (.iload 13, 2) := by decide +kernel
theorem dX11_plan_155 : decode cX11_plan 155 = .ok (.ifCond .eq 33, 3) := by decide +kernel
theorem dX11_plan_158 : decode cX11_plan 158 = .ok (.aload_n 0, 1) := by decide +kernel
theorem dX11_plan_159 : decode cX11_plan 159 = .ok (.iload 12, 2) := by decide +kernel
theorem dX11_plan_161 : decode cX11_plan 161 = .ok (.invokevirtual 154, 3) := by decide +kernel
theorem dX11_plan_164 : decode cX11_plan 164 = .ok (.ifCond .eq 9, 3) := by decide +kernel
theorem dX11_plan_167 : decode cX11_plan 167 = .ok (.sipush 20000, 3) := by decide +kernel
theorem dX11_plan_170 : decode cX11_plan 170 = .ok (.goto 19, 3) := by decide +kernel
theorem dX11_plan_173 : decode cX11_plan 173 = .ok (.iconst 2, 1) := by decide +kernel
theorem dX11_plan_174 : decode cX11_plan 174 = .ok (.bipush 10, 2) := by decide +kernel
theorem dX11_plan_176 : decode cX11_plan 176 = .ok (.aload_n 0, 1) := by decide +kernel
theorem dX11_plan_177 : decode cX11_plan 177 = .ok (.getfield 53, 3) := by decide +kernel
theorem dX11_plan_180 : decode cX11_plan 180 = .ok (.iload 12, 2) := by decide +kernel
theorem dX11_plan_182 : decode cX11_plan 182 = .ok (.iaload, 1) := by decide +kernel
theorem dX11_plan_183 : decode cX11_plan 183 = .ok (.isub, 1) := by decide +kernel
theorem dX11_plan_184 : decode cX11_plan 184 = .ok (.imul, 1) := by decide +kernel
theorem dX11_plan_185 : decode cX11_plan 185 = .ok (.goto 4, 3) := by decide +kernel
theorem dX11_plan_188 : decode cX11_plan 188 = .ok (.iconst 0, 1) := by decide +kernel
theorem dX11_plan_189 : decode cX11_plan 189 = .ok (.iadd, 1) := by decide +kernel
theorem dX11_plan_190 : decode cX11_plan 190 = .ok (.istore 11, 2) := by decide +kernel
theorem dX11_plan_192 : decode cX11_plan 192 = .ok (.iinc 9 1, 3) := by decide +kernel
theorem dX11_plan_195 : decode cX11_plan 195 = .ok (.iinc 12 1, 3) := by decide +kernel
theorem dX11_plan_198 : decode cX11_plan 198 = .ok (.goto (-106), 3) := by decide +kernel
theorem dX11_plan_201 : decode cX11_plan 201 = .ok (.iload 11, 2) := by decide +kernel
theorem dX11_plan_203 : decode cX11_plan 203 = .ok (.iload_n 3, 1) := by decide +kernel
theorem dX11_plan_204 : decode cX11_plan 204 = .ok (.if_icmp .gt 28, 3) := by decide +kernel
theorem dX11_plan_207 : decode cX11_plan 207 = .ok (.iload 10, 2) := by decide +kernel
theorem dX11_plan_209 : decode cX11_plan 209 = .ok (.iload 6, 2) := by decide +kernel
theorem dX11_plan_211 : decode cX11_plan 211 = .ok (.if_icmp .gt 17, 3) := by decide +kernel
theorem dX11_plan_214 : decode cX11_plan 214 = .ok (.iload 10, 2) := by decide +kernel
theorem dX11_plan_216 : decode cX11_plan 216 = .ok (.iload 6, 2) := by decide +kernel
theorem dX11_plan_218 : decode cX11_plan 218 = .ok (.if_icmp .ne 14, 3) := by decide +kernel
theorem dX11_plan_221 : decode cX11_plan 221 = .ok (.iload 11, 2) := by decide +kernel
theorem dX11_plan_223 : decode cX11_plan 223 = .ok (.iload 7, 2) := by decide +kernel
theorem dX11_plan_225 : decode cX11_plan 225 = .ok (.if_icmp .ge 7, 3) := by decide +kernel
theorem dX11_plan_228 : decode cX11_plan 228 = .ok (.iconst 1, 1) := by decide +kernel
theorem dX11_plan_229 : decode cX11_plan 229 = .ok (.goto 4, 3) := by decide +kernel
theorem dX11_plan_232 : decode cX11_plan 232 = .ok (.iconst 0, 1) := by decide +kernel
theorem dX11_plan_233 : decode cX11_plan 233 = .ok (.istore 12, 2) := by decide +kernel
theorem dX11_plan_235 : decode cX11_plan 235 = .ok (.iload 12, 2) := by decide +kernel
theorem dX11_plan_237 : decode cX11_plan 237 = .ok (.ifCond .eq 8, 3) := by decide +kernel
theorem dX11_plan_240 : decode cX11_plan 240 = .ok (.iload 8, 2) := by decide +kernel
theorem dX11_plan_242 : decode cX11_plan 242 = .ok (.goto 5, 3) := by decide +kernel
theorem dX11_plan_245 : decode cX11_plan 245 = .ok (.iload 5, 2) := by decide +kernel
theorem dX11_plan_247 : decode cX11_plan 247 = .ok (.istore 5, 2) := by decide +kernel
theorem dX11_plan_249 : decode cX11_plan 249 = .ok (.iload 12, 2) := by decide +kernel
theorem dX11_plan_251 : decode cX11_plan 251 = .ok (.ifCond .eq 8, 3) := by decide +kernel
theorem dX11_plan_254 : decode cX11_plan 254 = .ok (.iload 11, 2) := by decide +kernel
theorem dX11_plan_256 : decode cX11_plan 256 = .ok (.goto 5, 3) := by decide +kernel
theorem dX11_plan_259 : decode cX11_plan 259 = .ok (.iload 7, 2) := by decide +kernel
theorem dX11_plan_261 : decode cX11_plan 261 = .ok (.istore 7, 2) := by decide +kernel
theorem dX11_plan_263 : decode cX11_plan 263 = .ok (.iload 12, 2) := by decide +kernel
theorem dX11_plan_265 : decode cX11_plan 265 = .ok (.ifCond .eq 8, 3) := by decide +kernel
theorem dX11_plan_268 : decode cX11_plan 268 = .ok (.iload 10, 2) := by decide +kernel
theorem dX11_plan_270 : decode cX11_plan 270 = .ok (.goto 5, 3) := by decide +kernel
theorem dX11_plan_273 : decode cX11_plan 273 = .ok (.iload 6, 2) := by decide +kernel
theorem dX11_plan_275 : decode cX11_plan 275 = .ok (.istore 6, 2) := by decide +kernel
theorem dX11_plan_277 : decode cX11_plan 277 = .ok (.iinc 8 1, 3) := by decide +kernel
theorem dX11_plan_280 : decode cX11_plan 280 = .ok (.goto (-212), 3) := by decide +kernel
theorem dX11_plan_283 : decode cX11_plan 283 = .ok (.iload 5, 2) := by decide +kernel
theorem dX11_plan_285 : decode cX11_plan 285 = .ok (.ireturn, 1) := by decide +kernel
theorem dJ15_checkIndex_7cf53_0 : decode cJ15_checkIndex_7cf53 0 = .ok (.iload_n 0, 1) := by decide +kernel
theorem dJ15_checkIndex_7cf53_1 : decode cJ15_checkIndex_7cf53 1 = .ok (.iload_n 1, 1) := by decide +kernel
theorem dJ15_checkIndex_7cf53_2 : decode cJ15_checkIndex_7cf53 2 = .ok (.aconst_null, 1) := by decide +kernel
theorem dJ15_checkIndex_7cf53_3 : decode cJ15_checkIndex_7cf53 3 = .ok (.invokestatic 105, 3) := by decide +kernel
theorem dJ15_checkIndex_7cf53_6 : decode cJ15_checkIndex_7cf53 6 = .ok (.ireturn, 1) := by decide +kernel
theorem dJ3_checkIndex_8e157_0 : decode cJ3_checkIndex_8e157 0 = .ok (.iload_n 0, 1) := by decide +kernel
theorem dJ3_checkIndex_8e157_1 : decode cJ3_checkIndex_8e157 1 = .ok (.ifCond .lt 8, 3) := by decide +kernel
theorem dJ3_checkIndex_8e157_4 : decode cJ3_checkIndex_8e157 4 = .ok (.iload_n 0, 1) := by decide +kernel
theorem dJ3_checkIndex_8e157_5 : decode cJ3_checkIndex_8e157 5 = .ok (.iload_n 1, 1) := by decide +kernel
theorem dJ3_checkIndex_8e157_6 : decode cJ3_checkIndex_8e157 6 = .ok (.if_icmp .lt 10, 3) := by decide +kernel
theorem dJ3_checkIndex_8e157_9 : decode cJ3_checkIndex_8e157 9 = .ok (.aload_n 2, 1) := by decide +kernel
theorem dJ3_checkIndex_8e157_10 : decode cJ3_checkIndex_8e157 10 = .ok (.iload_n 0, 1) := by decide +kernel
theorem dJ3_checkIndex_8e157_11 : decode cJ3_checkIndex_8e157 11 = .ok (.iload_n 1, 1) := by decide +kernel
theorem dJ3_checkIndex_8e157_12 : decode cJ3_checkIndex_8e157 12 = .ok (.invokestatic 95, 3) := by decide +kernel
theorem dJ3_checkIndex_8e157_15 : decode cJ3_checkIndex_8e157 15 = .ok (.athrow, 1) := by decide +kernel
theorem dJ3_checkIndex_8e157_16 : decode cJ3_checkIndex_8e157 16 = .ok (.iload_n 0, 1) := by decide +kernel
theorem dJ3_checkIndex_8e157_17 : decode cJ3_checkIndex_8e157 17 = .ok (.ireturn, 1) := by decide +kernel
theorem dJ7_fill_53178_0 : decode cJ7_fill_53178 0 = .ok (.iconst 0, 1) := by decide +kernel
theorem dJ7_fill_53178_1 : decode cJ7_fill_53178 1 = .ok (.istore_n 2, 1) := by decide +kernel
theorem dJ7_fill_53178_2 : decode cJ7_fill_53178 2 = .ok (.aload_n 0, 1) := by decide +kernel
theorem dJ7_fill_53178_3 : decode cJ7_fill_53178 3 = .ok (.arraylength, 1) := by decide +kernel
theorem dJ7_fill_53178_4 : decode cJ7_fill_53178 4 = .ok (.istore_n 3, 1) := by decide +kernel
theorem dJ7_fill_53178_5 : decode cJ7_fill_53178 5 = .ok (.iload_n 2, 1) := by decide +kernel
theorem dJ7_fill_53178_6 : decode cJ7_fill_53178 6 = .ok (.iload_n 3, 1) := by decide +kernel
theorem dJ7_fill_53178_7 : decode cJ7_fill_53178 7 = .ok (.if_icmp .ge 13, 3) := by decide +kernel
theorem dJ7_fill_53178_10 : decode cJ7_fill_53178 10 = .ok (.aload_n 0, 1) := by decide +kernel
theorem dJ7_fill_53178_11 : decode cJ7_fill_53178 11 = .ok (.iload_n 2, 1) := by decide +kernel
theorem dJ7_fill_53178_12 : decode cJ7_fill_53178 12 = .ok (.iload_n 1, 1) := by decide +kernel
theorem dJ7_fill_53178_13 : decode cJ7_fill_53178 13 = .ok (.iastore, 1) := by decide +kernel
theorem dJ7_fill_53178_14 : decode cJ7_fill_53178 14 = .ok (.iinc 2 1, 3) := by decide +kernel
theorem dJ7_fill_53178_17 : decode cJ7_fill_53178 17 = .ok (.goto (-12), 3) := by decide +kernel
theorem dJ7_fill_53178_20 : decode cJ7_fill_53178 20 = .ok (.return_, 1) := by decide +kernel
theorem dJ7_copyOf_1904c_0 : decode cJ7_copyOf_1904c 0 = .ok (.aload_n 0, 1) := by decide +kernel
theorem dJ7_copyOf_1904c_1 : decode cJ7_copyOf_1904c 1 = .ok (.iload_n 1, 1) := by decide +kernel
theorem dJ7_copyOf_1904c_2 : decode cJ7_copyOf_1904c 2 = .ok (.aload_n 0, 1) := by decide +kernel
theorem dJ7_copyOf_1904c_3 : decode cJ7_copyOf_1904c 3 = .ok (.invokevirtual 86, 3) := by decide +kernel
theorem dJ7_copyOf_1904c_6 : decode cJ7_copyOf_1904c 6 = .ok (.invokestatic 300, 3) := by decide +kernel
theorem dJ7_copyOf_1904c_9 : decode cJ7_copyOf_1904c 9 = .ok (.areturn, 1) := by decide +kernel
theorem dJ7_copyOf_6403c_0 : decode cJ7_copyOf_6403c 0 = .ok (.aload_n 2, 1) := by decide +kernel
theorem dJ7_copyOf_6403c_1 : decode cJ7_copyOf_6403c 1 = .ok (.ldc 110, 2) := by decide +kernel
theorem dJ7_copyOf_6403c_3 : decode cJ7_copyOf_6403c 3 = .ok (.if_acmp .ne 10, 3) := by decide +kernel
theorem dJ7_copyOf_6403c_6 : decode cJ7_copyOf_6403c 6 = .ok (.iload_n 1, 1) := by decide +kernel
theorem dJ7_copyOf_6403c_7 : decode cJ7_copyOf_6403c 7 = .ok (.anewarray 2, 3) := by decide +kernel
theorem dJ7_copyOf_6403c_10 : decode cJ7_copyOf_6403c 10 = .ok (.goto 14, 3) := by decide +kernel
theorem dJ7_copyOf_6403c_13 : decode cJ7_copyOf_6403c 13 = .ok (.aload_n 2, 1) := by decide +kernel
theorem dJ7_copyOf_6403c_14 : decode cJ7_copyOf_6403c 14 = .ok (.invokevirtual 90, 3) := by decide +kernel
theorem dJ7_copyOf_6403c_17 : decode cJ7_copyOf_6403c 17 = .ok (.iload_n 1, 1) := by decide +kernel
theorem dJ7_copyOf_6403c_18 : decode cJ7_copyOf_6403c 18 = .ok (.invokestatic 95, 3) := by decide +kernel
theorem dJ7_copyOf_6403c_21 : decode cJ7_copyOf_6403c 21 = .ok (.checkcast 110, 3) := by decide +kernel
theorem dJ7_copyOf_6403c_24 : decode cJ7_copyOf_6403c 24 = .ok (.astore_n 3, 1) := by decide +kernel
theorem dJ7_copyOf_6403c_25 : decode cJ7_copyOf_6403c 25 = .ok (.aload_n 0, 1) := by decide +kernel
theorem dJ7_copyOf_6403c_26 : decode cJ7_copyOf_6403c 26 = .ok (.iconst 0, 1) := by decide +kernel
theorem dJ7_copyOf_6403c_27 : decode cJ7_copyOf_6403c 27 = .ok (.aload_n 3, 1) := by decide +kernel
theorem dJ7_copyOf_6403c_28 : decode cJ7_copyOf_6403c 28 = .ok (.iconst 0, 1) := by decide +kernel
theorem dJ7_copyOf_6403c_29 : decode cJ7_copyOf_6403c 29 = .ok (.aload_n 0, 1) := by decide +kernel
theorem dJ7_copyOf_6403c_30 : decode cJ7_copyOf_6403c 30 = .ok (.arraylength, 1) := by decide +kernel
theorem dJ7_copyOf_6403c_31 : decode cJ7_copyOf_6403c 31 = .ok (.iload_n 1, 1) := by decide +kernel
theorem dJ7_copyOf_6403c_32 : decode cJ7_copyOf_6403c 32 = .ok (.invokestatic 304, 3) := by decide +kernel
theorem dJ7_copyOf_6403c_35 : decode cJ7_copyOf_6403c 35 = .ok (.invokestatic 150, 3) := by decide +kernel
theorem dJ7_copyOf_6403c_38 : decode cJ7_copyOf_6403c 38 = .ok (.aload_n 3, 1) := by decide +kernel
theorem dJ7_copyOf_6403c_39 : decode cJ7_copyOf_6403c 39 = .ok (.areturn, 1) := by decide +kernel
theorem dJ8_newLength_cabcc_0 : decode cJ8_newLength_cabcc 0 = .ok (.iload_n 0, 1) := by decide +kernel
theorem dJ8_newLength_cabcc_1 : decode cJ8_newLength_cabcc 1 = .ok (.iload_n 1, 1) := by decide +kernel
theorem dJ8_newLength_cabcc_2 : decode cJ8_newLength_cabcc 2 = .ok (.iload_n 2, 1) := by decide +kernel
theorem dJ8_newLength_cabcc_3 : decode cJ8_newLength_cabcc 3 = .ok (.invokestatic 194, 3) := by decide +kernel
theorem dJ8_newLength_cabcc_6 : decode cJ8_newLength_cabcc 6 = .ok (.iadd, 1) := by decide +kernel
theorem dJ8_newLength_cabcc_7 : decode cJ8_newLength_cabcc 7 = .ok (.istore_n 3, 1) := by decide +kernel
theorem dJ8_newLength_cabcc_8 : decode cJ8_newLength_cabcc 8 = .ok (.iconst 0, 1) := by decide +kernel
theorem dJ8_newLength_cabcc_9 : decode cJ8_newLength_cabcc 9 = .ok (.iload_n 3, 1) := by decide +kernel
theorem dJ8_newLength_cabcc_10 : decode cJ8_newLength_cabcc 10 = .ok (.if_icmp .ge 11, 3) := by decide +kernel
theorem dJ8_newLength_cabcc_13 : decode cJ8_newLength_cabcc 13 = .ok (.iload_n 3, 1) := by decide +kernel
theorem dJ8_newLength_cabcc_14 : decode cJ8_newLength_cabcc 14 = .ok (.ldc 200, 2) := by decide +kernel
theorem dJ8_newLength_cabcc_16 : decode cJ8_newLength_cabcc 16 = .ok (.if_icmp .gt 5, 3) := by decide +kernel
theorem dJ8_newLength_cabcc_19 : decode cJ8_newLength_cabcc 19 = .ok (.iload_n 3, 1) := by decide +kernel
theorem dJ8_newLength_cabcc_20 : decode cJ8_newLength_cabcc 20 = .ok (.ireturn, 1) := by decide +kernel
theorem dJ8_newLength_cabcc_21 : decode cJ8_newLength_cabcc 21 = .ok (.iload_n 0, 1) := by decide +kernel
theorem dJ8_newLength_cabcc_22 : decode cJ8_newLength_cabcc 22 = .ok (.iload_n 1, 1) := by decide +kernel
theorem dJ8_newLength_cabcc_23 : decode cJ8_newLength_cabcc 23 = .ok (.invokestatic 201, 3) := by decide +kernel
theorem dJ8_newLength_cabcc_26 : decode cJ8_newLength_cabcc 26 = .ok (.ireturn, 1) := by decide +kernel
theorem dJ8_hugeLength_7cf53_0 : decode cJ8_hugeLength_7cf53 0 = .ok (.iload_n 0, 1) := by decide +kernel
theorem dJ8_hugeLength_7cf53_1 : decode cJ8_hugeLength_7cf53 1 = .ok (.iload_n 1, 1) := by decide +kernel
theorem dJ8_hugeLength_7cf53_2 : decode cJ8_hugeLength_7cf53 2 = .ok (.iadd, 1) := by decide +kernel
theorem dJ8_hugeLength_7cf53_3 : decode cJ8_hugeLength_7cf53 3 = .ok (.istore_n 2, 1) := by decide +kernel
theorem dJ8_hugeLength_7cf53_4 : decode cJ8_hugeLength_7cf53 4 = .ok (.iload_n 2, 1) := by decide +kernel
theorem dJ8_hugeLength_7cf53_5 : decode cJ8_hugeLength_7cf53 5 = .ok (.ifCond .ge 44, 3) := by decide +kernel
theorem dJ8_hugeLength_7cf53_8 : decode cJ8_hugeLength_7cf53 8 = .ok (.new 204, 3) := by decide +kernel
theorem dJ8_hugeLength_7cf53_11 : decode cJ8_hugeLength_7cf53 11 = .ok (.dup, 1) := by decide +kernel
theorem dJ8_hugeLength_7cf53_12 : decode cJ8_hugeLength_7cf53 12 = .ok (.new 89, 3) := by decide +kernel
theorem dJ8_hugeLength_7cf53_15 : decode cJ8_hugeLength_7cf53 15 = .ok (.dup, 1) := by decide +kernel
theorem dJ8_hugeLength_7cf53_16 : decode cJ8_hugeLength_7cf53 16 = .ok (.invokespecial 91, 3) := by decide +kernel
theorem dJ8_hugeLength_7cf53_19 : decode cJ8_hugeLength_7cf53 19 = .ok (.ldc 206, 2) := by decide +kernel
theorem dJ8_hugeLength_7cf53_21 : decode cJ8_hugeLength_7cf53 21 = .ok (.invokevirtual 94, 3) := by decide +kernel
theorem dJ8_hugeLength_7cf53_24 : decode cJ8_hugeLength_7cf53 24 = .ok (.iload_n 0, 1) := by decide +kernel
theorem dJ8_hugeLength_7cf53_25 : decode cJ8_hugeLength_7cf53 25 = .ok (.invokevirtual 98, 3) := by decide +kernel
theorem dJ8_hugeLength_7cf53_28 : decode cJ8_hugeLength_7cf53 28 = .ok (.ldc 208, 2) := by decide +kernel
theorem dJ8_hugeLength_7cf53_30 : decode cJ8_hugeLength_7cf53 30 = .ok (.invokevirtual 94, 3) := by decide +kernel
theorem dJ8_hugeLength_7cf53_33 : decode cJ8_hugeLength_7cf53 33 = .ok (.iload_n 1, 1) := by decide +kernel
theorem dJ8_hugeLength_7cf53_34 : decode cJ8_hugeLength_7cf53 34 = .ok (.invokevirtual 98, 3) := by decide +kernel
theorem dJ8_hugeLength_7cf53_37 : decode cJ8_hugeLength_7cf53 37 = .ok (.ldc 210, 2) := by decide +kernel
theorem dJ8_hugeLength_7cf53_39 : decode cJ8_hugeLength_7cf53 39 = .ok (.invokevirtual 94, 3) := by decide +kernel
theorem dJ8_hugeLength_7cf53_42 : decode cJ8_hugeLength_7cf53 42 = .ok (.invokevirtual 101, 3) := by decide +kernel
theorem dJ8_hugeLength_7cf53_45 : decode cJ8_hugeLength_7cf53 45 = .ok (.invokespecial 212, 3) := by decide +kernel
theorem dJ8_hugeLength_7cf53_48 : decode cJ8_hugeLength_7cf53 48 = .ok (.athrow, 1) := by decide +kernel
theorem dJ8_hugeLength_7cf53_49 : decode cJ8_hugeLength_7cf53 49 = .ok (.iload_n 2, 1) := by decide +kernel
theorem dJ8_hugeLength_7cf53_50 : decode cJ8_hugeLength_7cf53 50 = .ok (.ldc 200, 2) := by decide +kernel
theorem dJ8_hugeLength_7cf53_52 : decode cJ8_hugeLength_7cf53 52 = .ok (.if_icmp .gt 6, 3) := by decide +kernel
theorem dJ8_hugeLength_7cf53_55 : decode cJ8_hugeLength_7cf53 55 = .ok (.ldc 200, 2) := by decide +kernel
theorem dJ8_hugeLength_7cf53_57 : decode cJ8_hugeLength_7cf53 57 = .ok (.ireturn, 1) := by decide +kernel
theorem dJ8_hugeLength_7cf53_58 : decode cJ8_hugeLength_7cf53 58 = .ok (.iload_n 2, 1) := by decide +kernel
theorem dJ8_hugeLength_7cf53_59 : decode cJ8_hugeLength_7cf53 59 = .ok (.ireturn, 1) := by decide +kernel
theorem dJ9_abs_0f7a4_0 : decode cJ9_abs_0f7a4 0 = .ok (.iload_n 0, 1) := by decide +kernel
theorem dJ9_abs_0f7a4_1 : decode cJ9_abs_0f7a4 1 = .ok (.ifCond .ge 8, 3) := by decide +kernel
theorem dJ9_abs_0f7a4_4 : decode cJ9_abs_0f7a4 4 = .ok (.iload_n 0, 1) := by decide +kernel
theorem dJ9_abs_0f7a4_5 : decode cJ9_abs_0f7a4 5 = .ok (.ineg, 1) := by decide +kernel
theorem dJ9_abs_0f7a4_6 : decode cJ9_abs_0f7a4 6 = .ok (.goto 4, 3) := by decide +kernel
theorem dJ9_abs_0f7a4_9 : decode cJ9_abs_0f7a4 9 = .ok (.iload_n 0, 1) := by decide +kernel
theorem dJ9_abs_0f7a4_10 : decode cJ9_abs_0f7a4 10 = .ok (.ireturn, 1) := by decide +kernel
theorem dJ9_max_7cf53_0 : decode cJ9_max_7cf53 0 = .ok (.iload_n 0, 1) := by decide +kernel
theorem dJ9_max_7cf53_1 : decode cJ9_max_7cf53 1 = .ok (.iload_n 1, 1) := by decide +kernel
theorem dJ9_max_7cf53_2 : decode cJ9_max_7cf53 2 = .ok (.if_icmp .lt 7, 3) := by decide +kernel
theorem dJ9_max_7cf53_5 : decode cJ9_max_7cf53 5 = .ok (.iload_n 0, 1) := by decide +kernel
theorem dJ9_max_7cf53_6 : decode cJ9_max_7cf53 6 = .ok (.goto 4, 3) := by decide +kernel
theorem dJ9_max_7cf53_9 : decode cJ9_max_7cf53 9 = .ok (.iload_n 1, 1) := by decide +kernel
theorem dJ9_max_7cf53_10 : decode cJ9_max_7cf53 10 = .ok (.ireturn, 1) := by decide +kernel
theorem dJ9_min_7cf53_0 : decode cJ9_min_7cf53 0 = .ok (.iload_n 0, 1) := by decide +kernel
theorem dJ9_min_7cf53_1 : decode cJ9_min_7cf53 1 = .ok (.iload_n 1, 1) := by decide +kernel
theorem dJ9_min_7cf53_2 : decode cJ9_min_7cf53 2 = .ok (.if_icmp .gt 7, 3) := by decide +kernel
theorem dJ9_min_7cf53_5 : decode cJ9_min_7cf53 5 = .ok (.iload_n 0, 1) := by decide +kernel
theorem dJ9_min_7cf53_6 : decode cJ9_min_7cf53 6 = .ok (.goto 4, 3) := by decide +kernel
theorem dJ9_min_7cf53_9 : decode cJ9_min_7cf53 9 = .ok (.iload_n 1, 1) := by decide +kernel
theorem dJ9_min_7cf53_10 : decode cJ9_min_7cf53 10 = .ok (.ireturn, 1) := by decide +kernel
theorem dJx4a65c_init_da8c8_0 : decode cJx4a65c_init_da8c8 0 = .ok (.aload_n 0, 1) := by decide +kernel
theorem dJx4a65c_init_da8c8_1 : decode cJx4a65c_init_da8c8 1 = .ok (.invokespecial 1, 3) := by decide +kernel
theorem dJx4a65c_init_da8c8_4 : decode cJx4a65c_init_da8c8 4 = .ok (.aload_n 0, 1) := by decide +kernel
theorem dJx4a65c_init_da8c8_5 : decode cJx4a65c_init_da8c8 5 = .ok (.getstatic 39, 3) := by decide +kernel
theorem dJx4a65c_init_da8c8_8 : decode cJx4a65c_init_da8c8 8 = .ok (.putfield 9, 3) := by decide +kernel
theorem dJx4a65c_init_da8c8_11 : decode cJx4a65c_init_da8c8 11 = .ok (.return_, 1) := by decide +kernel
theorem dJx4a65c_grow_92f84_0 : decode cJx4a65c_grow_92f84 0 = .ok (.aload_n 0, 1) := by decide +kernel
theorem dJx4a65c_grow_92f84_1 : decode cJx4a65c_grow_92f84 1 = .ok (.getfield 9, 3) := by decide +kernel
theorem dJx4a65c_grow_92f84_4 : decode cJx4a65c_grow_92f84 4 = .ok (.arraylength, 1) := by decide +kernel
theorem dJx4a65c_grow_92f84_5 : decode cJx4a65c_grow_92f84 5 = .ok (.istore_n 2, 1) := by decide +kernel
theorem dJx4a65c_grow_92f84_6 : decode cJx4a65c_grow_92f84 6 = .ok (.iload_n 2, 1) := by decide +kernel
theorem dJx4a65c_grow_92f84_7 : decode cJx4a65c_grow_92f84 7 = .ok (.ifCond .gt 13, 3) := by decide +kernel
theorem dJx4a65c_grow_92f84_10 : decode cJx4a65c_grow_92f84 10 = .ok (.aload_n 0, 1) := by decide +kernel
theorem dJx4a65c_grow_92f84_11 : decode cJx4a65c_grow_92f84 11 = .ok (.getfield 9, 3) := by decide +kernel
theorem dJx4a65c_grow_92f84_14 : decode cJx4a65c_grow_92f84 14 = .ok (.getstatic 39, 3) := by decide +kernel
theorem dJx4a65c_grow_92f84_17 : decode cJx4a65c_grow_92f84 17 = .ok (.if_acmp .eq 28, 3) := by decide +kernel
theorem dJx4a65c_grow_92f84_20 : decode cJx4a65c_grow_92f84 20 = .ok (.iload_n 2, 1) := by decide +kernel
theorem dJx4a65c_grow_92f84_21 : decode cJx4a65c_grow_92f84 21 = .ok (.iload_n 1, 1) := by decide +kernel
theorem dJx4a65c_grow_92f84_22 : decode cJx4a65c_grow_92f84 22 = .ok (.iload_n 2, 1) := by decide +kernel
theorem dJx4a65c_grow_92f84_23 : decode cJx4a65c_grow_92f84 23 = .ok (.isub, 1) := by decide +kernel
theorem dJx4a65c_grow_92f84_24 : decode cJx4a65c_grow_92f84 24 = .ok (.iload_n 2, 1) := by decide +kernel
theorem dJx4a65c_grow_92f84_25 : decode cJx4a65c_grow_92f84 25 = .ok (.iconst 1, 1) := by decide +kernel
theorem dJx4a65c_grow_92f84_26 : decode cJx4a65c_grow_92f84 26 = .ok (.ishr, 1) := by decide +kernel
theorem dJx4a65c_grow_92f84_27 : decode cJx4a65c_grow_92f84 27 = .ok (.invokestatic 73, 3) := by decide +kernel
theorem dJx4a65c_grow_92f84_30 : decode cJx4a65c_grow_92f84 30 = .ok (.istore_n 3, 1) := by decide +kernel
theorem dJx4a65c_grow_92f84_31 : decode cJx4a65c_grow_92f84 31 = .ok (.aload_n 0, 1) := by decide +kernel
theorem dJx4a65c_grow_92f84_32 : decode cJx4a65c_grow_92f84 32 = .ok (.aload_n 0, 1) := by decide +kernel
theorem dJx4a65c_grow_92f84_33 : decode cJx4a65c_grow_92f84 33 = .ok (.getfield 9, 3) := by decide +kernel
theorem dJx4a65c_grow_92f84_36 : decode cJx4a65c_grow_92f84 36 = .ok (.iload_n 3, 1) := by decide +kernel
theorem dJx4a65c_grow_92f84_37 : decode cJx4a65c_grow_92f84 37 = .ok (.invokestatic 66, 3) := by decide +kernel
theorem dJx4a65c_grow_92f84_40 : decode cJx4a65c_grow_92f84 40 = .ok (.dup_x1, 1) := by decide +kernel
theorem dJx4a65c_grow_92f84_41 : decode cJx4a65c_grow_92f84 41 = .ok (.putfield 9, 3) := by decide +kernel
theorem dJx4a65c_grow_92f84_44 : decode cJx4a65c_grow_92f84 44 = .ok (.areturn, 1) := by decide +kernel
theorem dJx4a65c_grow_92f84_45 : decode cJx4a65c_grow_92f84 45 = .ok (.aload_n 0, 1) := by decide +kernel
theorem dJx4a65c_grow_92f84_46 : decode cJx4a65c_grow_92f84 46 = .ok (.bipush 10, 2) := by decide +kernel
theorem dJx4a65c_grow_92f84_48 : decode cJx4a65c_grow_92f84 48 = .ok (.iload_n 1, 1) := by decide +kernel
theorem dJx4a65c_grow_92f84_49 : decode cJx4a65c_grow_92f84 49 = .ok (.invokestatic 79, 3) := by decide +kernel
theorem dJx4a65c_grow_92f84_52 : decode cJx4a65c_grow_92f84 52 = .ok (.anewarray 7, 3) := by decide +kernel
theorem dJx4a65c_grow_92f84_55 : decode cJx4a65c_grow_92f84 55 = .ok (.dup_x1, 1) := by decide +kernel
theorem dJx4a65c_grow_92f84_56 : decode cJx4a65c_grow_92f84 56 = .ok (.putfield 9, 3) := by decide +kernel
theorem dJx4a65c_grow_92f84_59 : decode cJx4a65c_grow_92f84 59 = .ok (.areturn, 1) := by decide +kernel
theorem dJx4a65c_grow_d5877_0 : decode cJx4a65c_grow_d5877 0 = .ok (.aload_n 0, 1) := by decide +kernel
theorem dJx4a65c_grow_d5877_1 : decode cJx4a65c_grow_d5877 1 = .ok (.aload_n 0, 1) := by decide +kernel
theorem dJx4a65c_grow_d5877_2 : decode cJx4a65c_grow_d5877 2 = .ok (.getfield 48, 3) := by decide +kernel
theorem dJx4a65c_grow_d5877_5 : decode cJx4a65c_grow_d5877 5 = .ok (.iconst 1, 1) := by decide +kernel
theorem dJx4a65c_grow_d5877_6 : decode cJx4a65c_grow_d5877 6 = .ok (.iadd, 1) := by decide +kernel
theorem dJx4a65c_grow_d5877_7 : decode cJx4a65c_grow_d5877 7 = .ok (.invokevirtual 69, 3) := by decide +kernel
theorem dJx4a65c_grow_d5877_10 : decode cJx4a65c_grow_d5877 10 = .ok (.areturn, 1) := by decide +kernel
theorem dJx4a65c_size_8abf5_0 : decode cJx4a65c_size_8abf5 0 = .ok (.aload_n 0, 1) := by decide +kernel
theorem dJx4a65c_size_8abf5_1 : decode cJx4a65c_size_8abf5 1 = .ok (.getfield 48, 3) := by decide +kernel
theorem dJx4a65c_size_8abf5_4 : decode cJx4a65c_size_8abf5 4 = .ok (.ireturn, 1) := by decide +kernel
theorem dJx4a65c_elementData_915e3_0 : decode cJx4a65c_elementData_915e3 0 = .ok (.aload_n 0, 1) := by decide +kernel
theorem dJx4a65c_elementData_915e3_1 : decode cJx4a65c_elementData_915e3 1 = .ok (.getfield 9, 3) := by decide +kernel
theorem dJx4a65c_elementData_915e3_4 : decode cJx4a65c_elementData_915e3 4 = .ok (.iload_n 1, 1) := by decide +kernel
theorem dJx4a65c_elementData_915e3_5 : decode cJx4a65c_elementData_915e3 5 = .ok (.aaload, 1) := by decide +kernel
theorem dJx4a65c_elementData_915e3_6 : decode cJx4a65c_elementData_915e3 6 = .ok (.areturn, 1) := by decide +kernel
theorem dJx4a65c_get_915e3_0 : decode cJx4a65c_get_915e3 0 = .ok (.iload_n 1, 1) := by decide +kernel
theorem dJx4a65c_get_915e3_1 : decode cJx4a65c_get_915e3 1 = .ok (.aload_n 0, 1) := by decide +kernel
theorem dJx4a65c_get_915e3_2 : decode cJx4a65c_get_915e3 2 = .ok (.getfield 48, 3) := by decide +kernel
theorem dJx4a65c_get_915e3_5 : decode cJx4a65c_get_915e3 5 = .ok (.invokestatic 118, 3) := by decide +kernel
theorem dJx4a65c_get_915e3_8 : decode cJx4a65c_get_915e3 8 = .ok (.pop, 1) := by decide +kernel
theorem dJx4a65c_get_915e3_9 : decode cJx4a65c_get_915e3 9 = .ok (.aload_n 0, 1) := by decide +kernel
theorem dJx4a65c_get_915e3_10 : decode cJx4a65c_get_915e3 10 = .ok (.iload_n 1, 1) := by decide +kernel
theorem dJx4a65c_get_915e3_11 : decode cJx4a65c_get_915e3 11 = .ok (.invokevirtual 123, 3) := by decide +kernel
theorem dJx4a65c_get_915e3_14 : decode cJx4a65c_get_915e3 14 = .ok (.areturn, 1) := by decide +kernel
theorem dJx4a65c_add_72be8_0 : decode cJx4a65c_add_72be8 0 = .ok (.iload_n 3, 1) := by decide +kernel
theorem dJx4a65c_add_72be8_1 : decode cJx4a65c_add_72be8 1 = .ok (.aload_n 2, 1) := by decide +kernel
theorem dJx4a65c_add_72be8_2 : decode cJx4a65c_add_72be8 2 = .ok (.arraylength, 1) := by decide +kernel
theorem dJx4a65c_add_72be8_3 : decode cJx4a65c_add_72be8 3 = .ok (.if_icmp .ne 8, 3) := by decide +kernel
theorem dJx4a65c_add_72be8_6 : decode cJx4a65c_add_72be8 6 = .ok (.aload_n 0, 1) := by decide +kernel
theorem dJx4a65c_add_72be8_7 : decode cJx4a65c_add_72be8 7 = .ok (.invokevirtual 129, 3) := by decide +kernel
theorem dJx4a65c_add_72be8_10 : decode cJx4a65c_add_72be8 10 = .ok (.astore_n 2, 1) := by decide +kernel
theorem dJx4a65c_add_72be8_11 : decode cJx4a65c_add_72be8 11 = .ok (.aload_n 2, 1) := by decide +kernel
theorem dJx4a65c_add_72be8_12 : decode cJx4a65c_add_72be8 12 = .ok (.iload_n 3, 1) := by decide +kernel
theorem dJx4a65c_add_72be8_13 : decode cJx4a65c_add_72be8 13 = .ok (.aload_n 1, 1) := by decide +kernel
theorem dJx4a65c_add_72be8_14 : decode cJx4a65c_add_72be8 14 = .ok (.aastore, 1) := by decide +kernel
theorem dJx4a65c_add_72be8_15 : decode cJx4a65c_add_72be8 15 = .ok (.aload_n 0, 1) := by decide +kernel
theorem dJx4a65c_add_72be8_16 : decode cJx4a65c_add_72be8 16 = .ok (.iload_n 3, 1) := by decide +kernel
theorem dJx4a65c_add_72be8_17 : decode cJx4a65c_add_72be8 17 = .ok (.iconst 1, 1) := by decide +kernel
theorem dJx4a65c_add_72be8_18 : decode cJx4a65c_add_72be8 18 = .ok (.iadd, 1) := by decide +kernel
theorem dJx4a65c_add_72be8_19 : decode cJx4a65c_add_72be8 19 = .ok (.putfield 48, 3) := by decide +kernel
theorem dJx4a65c_add_72be8_22 : decode cJx4a65c_add_72be8 22 = .ok (.return_, 1) := by decide +kernel
theorem dJx4a65c_add_9ea2d_0 : decode cJx4a65c_add_9ea2d 0 = .ok (.aload_n 0, 1) := by decide +kernel
theorem dJx4a65c_add_9ea2d_1 : decode cJx4a65c_add_9ea2d 1 = .ok (.dup, 1) := by decide +kernel
theorem dJx4a65c_add_9ea2d_2 : decode cJx4a65c_add_9ea2d 2 = .ok (.getfield 63, 3) := by decide +kernel
theorem dJx4a65c_add_9ea2d_5 : decode cJx4a65c_add_9ea2d 5 = .ok (.iconst 1, 1) := by decide +kernel
theorem dJx4a65c_add_9ea2d_6 : decode cJx4a65c_add_9ea2d 6 = .ok (.iadd, 1) := by decide +kernel
theorem dJx4a65c_add_9ea2d_7 : decode cJx4a65c_add_9ea2d 7 = .ok (.putfield 63, 3) := by decide +kernel
theorem dJx4a65c_add_9ea2d_10 : decode cJx4a65c_add_9ea2d 10 = .ok (.aload_n 0, 1) := by decide +kernel
theorem dJx4a65c_add_9ea2d_11 : decode cJx4a65c_add_9ea2d 11 = .ok (.aload_n 1, 1) := by decide +kernel
theorem dJx4a65c_add_9ea2d_12 : decode cJx4a65c_add_9ea2d 12 = .ok (.aload_n 0, 1) := by decide +kernel
theorem dJx4a65c_add_9ea2d_13 : decode cJx4a65c_add_9ea2d 13 = .ok (.getfield 9, 3) := by decide +kernel
theorem dJx4a65c_add_9ea2d_16 : decode cJx4a65c_add_9ea2d 16 = .ok (.aload_n 0, 1) := by decide +kernel
theorem dJx4a65c_add_9ea2d_17 : decode cJx4a65c_add_9ea2d 17 = .ok (.getfield 48, 3) := by decide +kernel
theorem dJx4a65c_add_9ea2d_20 : decode cJx4a65c_add_9ea2d 20 = .ok (.invokevirtual 131, 3) := by decide +kernel
theorem dJx4a65c_add_9ea2d_23 : decode cJx4a65c_add_9ea2d 23 = .ok (.iconst 1, 1) := by decide +kernel
theorem dJx4a65c_add_9ea2d_24 : decode cJx4a65c_add_9ea2d 24 = .ok (.ireturn, 1) := by decide +kernel
theorem dJx4a65c_remove_915e3_0 : decode cJx4a65c_remove_915e3 0 = .ok (.iload_n 1, 1) := by decide +kernel
theorem dJx4a65c_remove_915e3_1 : decode cJx4a65c_remove_915e3 1 = .ok (.aload_n 0, 1) := by decide +kernel
theorem dJx4a65c_remove_915e3_2 : decode cJx4a65c_remove_915e3 2 = .ok (.getfield 48, 3) := by decide +kernel
theorem dJx4a65c_remove_915e3_5 : decode cJx4a65c_remove_915e3 5 = .ok (.invokestatic 118, 3) := by decide +kernel
theorem dJx4a65c_remove_915e3_8 : decode cJx4a65c_remove_915e3 8 = .ok (.pop, 1) := by decide +kernel
theorem dJx4a65c_remove_915e3_9 : decode cJx4a65c_remove_915e3 9 = .ok (.aload_n 0, 1) := by decide +kernel
theorem dJx4a65c_remove_915e3_10 : decode cJx4a65c_remove_915e3 10 = .ok (.getfield 9, 3) := by decide +kernel
theorem dJx4a65c_remove_915e3_13 : decode cJx4a65c_remove_915e3 13 = .ok (.astore_n 2, 1) := by decide +kernel
theorem dJx4a65c_remove_915e3_14 : decode cJx4a65c_remove_915e3 14 = .ok (.aload_n 2, 1) := by decide +kernel
theorem dJx4a65c_remove_915e3_15 : decode cJx4a65c_remove_915e3 15 = .ok (.iload_n 1, 1) := by decide +kernel
theorem dJx4a65c_remove_915e3_16 : decode cJx4a65c_remove_915e3 16 = .ok (.aaload, 1) := by decide +kernel
theorem dJx4a65c_remove_915e3_17 : decode cJx4a65c_remove_915e3 17 = .ok (.astore_n 3, 1) := by decide +kernel
theorem dJx4a65c_remove_915e3_18 : decode cJx4a65c_remove_915e3 18 = .ok (.aload_n 0, 1) := by decide +kernel
theorem dJx4a65c_remove_915e3_19 : decode cJx4a65c_remove_915e3 19 = .ok (.aload_n 2, 1) := by decide +kernel
theorem dJx4a65c_remove_915e3_20 : decode cJx4a65c_remove_915e3 20 = .ok (.iload_n 1, 1) := by decide +kernel
theorem dJx4a65c_remove_915e3_21 : decode cJx4a65c_remove_915e3 21 = .ok (.invokevirtual 144, 3) := by decide +kernel
theorem dJx4a65c_remove_915e3_24 : decode cJx4a65c_remove_915e3 24 = .ok (.aload_n 3, 1) := by decide +kernel
theorem dJx4a65c_remove_915e3_25 : decode cJx4a65c_remove_915e3 25 = .ok (.areturn, 1) := by decide +kernel
theorem dJx4a65c_fastRemove_b59b0_0 : decode cJx4a65c_fastRemove_b59b0 0 = .ok (.aload_n 0, 1) := by decide +kernel
theorem dJx4a65c_fastRemove_b59b0_1 : decode cJx4a65c_fastRemove_b59b0 1 = .ok (.dup, 1) := by decide +kernel
theorem dJx4a65c_fastRemove_b59b0_2 : decode cJx4a65c_fastRemove_b59b0 2 = .ok (.getfield 63, 3) := by decide +kernel
theorem dJx4a65c_fastRemove_b59b0_5 : decode cJx4a65c_fastRemove_b59b0 5 = .ok (.iconst 1, 1) := by decide +kernel
theorem dJx4a65c_fastRemove_b59b0_6 : decode cJx4a65c_fastRemove_b59b0 6 = .ok (.iadd, 1) := by decide +kernel
theorem dJx4a65c_fastRemove_b59b0_7 : decode cJx4a65c_fastRemove_b59b0 7 = .ok (.putfield 63, 3) := by decide +kernel
theorem dJx4a65c_fastRemove_b59b0_10 : decode cJx4a65c_fastRemove_b59b0 10 = .ok (.aload_n 0, 1) := by decide +kernel
theorem dJx4a65c_fastRemove_b59b0_11 : decode cJx4a65c_fastRemove_b59b0 11 = .ok (.getfield 48, 3) := by decide +kernel
theorem dJx4a65c_fastRemove_b59b0_14 : decode cJx4a65c_fastRemove_b59b0 14 = .ok (.iconst 1, 1) := by decide +kernel
theorem dJx4a65c_fastRemove_b59b0_15 : decode cJx4a65c_fastRemove_b59b0 15 = .ok (.isub, 1) := by decide +kernel
theorem dJx4a65c_fastRemove_b59b0_16 : decode cJx4a65c_fastRemove_b59b0 16 = .ok (.dup, 1) := by decide +kernel
theorem dJx4a65c_fastRemove_b59b0_17 : decode cJx4a65c_fastRemove_b59b0 17 = .ok (.istore_n 3, 1) := by decide +kernel
theorem dJx4a65c_fastRemove_b59b0_18 : decode cJx4a65c_fastRemove_b59b0 18 = .ok (.iload_n 2, 1) := by decide +kernel
theorem dJx4a65c_fastRemove_b59b0_19 : decode cJx4a65c_fastRemove_b59b0 19 = .ok (.if_icmp .le 15, 3) := by decide +kernel
theorem dJx4a65c_fastRemove_b59b0_22 : decode cJx4a65c_fastRemove_b59b0 22 = .ok (.aload_n 1, 1) := by decide +kernel
theorem dJx4a65c_fastRemove_b59b0_23 : decode cJx4a65c_fastRemove_b59b0 23 = .ok (.iload_n 2, 1) := by decide +kernel
theorem dJx4a65c_fastRemove_b59b0_24 : decode cJx4a65c_fastRemove_b59b0 24 = .ok (.iconst 1, 1) := by decide +kernel
theorem dJx4a65c_fastRemove_b59b0_25 : decode cJx4a65c_fastRemove_b59b0 25 = .ok (.iadd, 1) := by decide +kernel
theorem dJx4a65c_fastRemove_b59b0_26 : decode cJx4a65c_fastRemove_b59b0 26 = .ok (.aload_n 1, 1) := by decide +kernel
theorem dJx4a65c_fastRemove_b59b0_27 : decode cJx4a65c_fastRemove_b59b0 27 = .ok (.iload_n 2, 1) := by decide +kernel
theorem dJx4a65c_fastRemove_b59b0_28 : decode cJx4a65c_fastRemove_b59b0 28 = .ok (.iload_n 3, 1) := by decide +kernel
theorem dJx4a65c_fastRemove_b59b0_29 : decode cJx4a65c_fastRemove_b59b0 29 = .ok (.iload_n 2, 1) := by decide +kernel
theorem dJx4a65c_fastRemove_b59b0_30 : decode cJx4a65c_fastRemove_b59b0 30 = .ok (.isub, 1) := by decide +kernel
theorem dJx4a65c_fastRemove_b59b0_31 : decode cJx4a65c_fastRemove_b59b0 31 = .ok (.invokestatic 112, 3) := by decide +kernel
theorem dJx4a65c_fastRemove_b59b0_34 : decode cJx4a65c_fastRemove_b59b0 34 = .ok (.aload_n 1, 1) := by decide +kernel
theorem dJx4a65c_fastRemove_b59b0_35 : decode cJx4a65c_fastRemove_b59b0 35 = .ok (.aload_n 0, 1) := by decide +kernel
theorem dJx4a65c_fastRemove_b59b0_36 : decode cJx4a65c_fastRemove_b59b0 36 = .ok (.iload_n 3, 1) := by decide +kernel
theorem dJx4a65c_fastRemove_b59b0_37 : decode cJx4a65c_fastRemove_b59b0 37 = .ok (.dup_x1, 1) := by decide +kernel
theorem dJx4a65c_fastRemove_b59b0_38 : decode cJx4a65c_fastRemove_b59b0 38 = .ok (.putfield 48, 3) := by decide +kernel
theorem dJx4a65c_fastRemove_b59b0_41 : decode cJx4a65c_fastRemove_b59b0 41 = .ok (.aconst_null, 1) := by decide +kernel
theorem dJx4a65c_fastRemove_b59b0_42 : decode cJx4a65c_fastRemove_b59b0 42 = .ok (.aastore, 1) := by decide +kernel
theorem dJx4a65c_fastRemove_b59b0_43 : decode cJx4a65c_fastRemove_b59b0 43 = .ok (.return_, 1) := by decide +kernel
theorem dJxa1e45_init_da8c8_0 : decode cJxa1e45_init_da8c8 0 = .ok (.aload_n 0, 1) := by decide +kernel
theorem dJxa1e45_init_da8c8_1 : decode cJxa1e45_init_da8c8 1 = .ok (.invokespecial 1, 3) := by decide +kernel
theorem dJxa1e45_init_da8c8_4 : decode cJxa1e45_init_da8c8 4 = .ok (.return_, 1) := by decide +kernel
theorem dJxc12de_init_da8c8_0 : decode cJxc12de_init_da8c8 0 = .ok (.aload_n 0, 1) := by decide +kernel
theorem dJxc12de_init_da8c8_1 : decode cJxc12de_init_da8c8 1 = .ok (.invokespecial 1, 3) := by decide +kernel
theorem dJxc12de_init_da8c8_4 : decode cJxc12de_init_da8c8 4 = .ok (.aload_n 0, 1) := by decide +kernel
theorem dJxc12de_init_da8c8_5 : decode cJxc12de_init_da8c8 5 = .ok (.iconst 0, 1) := by decide +kernel
theorem dJxc12de_init_da8c8_6 : decode cJxc12de_init_da8c8 6 = .ok (.putfield 7, 3) := by decide +kernel
theorem dJxc12de_init_da8c8_9 : decode cJxc12de_init_da8c8 9 = .ok (.return_, 1) := by decide +kernel
theorem dL_ridge_0 : decode cL_ridge 0 = .ok (.aload_n 3, 1) := by decide +kernel
theorem dL_ridge_1 : decode cL_ridge 1 = .ok (.iconst 0, 1) := by decide +kernel
theorem dL_ridge_2 : decode cL_ridge 2 = .ok (.aload_n 0, 1) := by decide +kernel
theorem dL_ridge_3 : decode cL_ridge 3 = .ok (.iload_n 1, 1) := by decide +kernel
theorem dL_ridge_4 : decode cL_ridge 4 = .ok (.iload_n 2, 1) := by decide +kernel
theorem dL_ridge_5 : decode cL_ridge 5 = .ok (.invokevirtual 7, 3) := by decide +kernel
theorem dL_ridge_8 : decode cL_ridge 8 = .ok (.ifCond .eq 7, 3) := by decide +kernel
theorem dL_ridge_11 : decode cL_ridge 11 = .ok (.lconst 1, 1) := by decide +kernel
theorem dL_ridge_12 : decode cL_ridge 12 = .ok (.goto 4, 3) := by decide +kernel
theorem dL_ridge_15 : decode cL_ridge 15 = .ok (.lconst 0, 1) := by decide +kernel
theorem dL_ridge_16 : decode cL_ridge 16 = .ok (.lastore, 1) := by decide +kernel
theorem dL_ridge_17 : decode cL_ridge 17 = .ok (.goto 7, 3) := by decide +kernel
theorem dL_ridge_20 : decode cL_ridge 20 = .ok (.astore 4, 2) := by decide +kernel
theorem dL_ridge_22 : decode cL_ridge 22 = .ok (.iconst 1, 1) := by decide +kernel
theorem dL_ridge_23 : decode cL_ridge 23 = .ok (.ireturn, 1) := by decide +kernel
theorem dL_ridge_24 : decode cL_ridge 24 = .ok (.iconst 0, 1) := by decide +kernel
theorem dL_ridge_25 : decode cL_ridge 25 = .ok (.ireturn, 1) := by decide +kernel
theorem dL_zone_0 : decode cL_zone 0 = .ok (.aload_n 3, 1) := by decide +kernel
theorem dL_zone_1 : decode cL_zone 1 = .ok (.iconst 0, 1) := by decide +kernel
theorem dL_zone_2 : decode cL_zone 2 = .ok (.aload_n 0, 1) := by decide +kernel
theorem dL_zone_3 : decode cL_zone 3 = .ok (.iload_n 1, 1) := by decide +kernel
theorem dL_zone_4 : decode cL_zone 4 = .ok (.iload_n 2, 1) := by decide +kernel
theorem dL_zone_5 : decode cL_zone 5 = .ok (.invokevirtual 15, 3) := by decide +kernel
theorem dL_zone_8 : decode cL_zone 8 = .ok (.i2l, 1) := by decide +kernel
theorem dL_zone_9 : decode cL_zone 9 = .ok (.lastore, 1) := by decide +kernel
theorem dL_zone_10 : decode cL_zone 10 = .ok (.goto 7, 3) := by decide +kernel
theorem dL_zone_13 : decode cL_zone 13 = .ok (.astore 4, 2) := by decide +kernel
theorem dL_zone_15 : decode cL_zone 15 = .ok (.iconst 1, 1) := by decide +kernel
theorem dL_zone_16 : decode cL_zone 16 = .ok (.ireturn, 1) := by decide +kernel
theorem dL_zone_17 : decode cL_zone 17 = .ok (.iconst 0, 1) := by decide +kernel
theorem dL_zone_18 : decode cL_zone 18 = .ok (.ireturn, 1) := by decide +kernel
theorem dL_law_0 : decode cL_law 0 = .ok (.aload_n 0, 1) := by decide +kernel
theorem dL_law_1 : decode cL_law 1 = .ok (.iload_n 1, 1) := by decide +kernel
theorem dL_law_2 : decode cL_law 2 = .ok (.iload_n 2, 1) := by decide +kernel
theorem dL_law_3 : decode cL_law 3 = .ok (.iload_n 3, 1) := by decide +kernel
theorem dL_law_4 : decode cL_law 4 = .ok (.iload 4, 2) := by decide +kernel
theorem dL_law_6 : decode cL_law 6 = .ok (.invokevirtual 19, 3) := by decide +kernel
theorem dL_law_9 : decode cL_law 9 = .ok (.goto 11, 3) := by decide +kernel
theorem dL_law_12 : decode cL_law 12 = .ok (.astore 5, 2) := by decide +kernel
theorem dL_law_14 : decode cL_law 14 = .ok (.iconst 1, 1) := by decide +kernel
theorem dL_law_15 : decode cL_law 15 = .ok (.ireturn, 1) := by decide +kernel
theorem dL_law_16 : decode cL_law 16 = .ok (.astore 5, 2) := by decide +kernel
theorem dL_law_18 : decode cL_law 18 = .ok (.iconst 2, 1) := by decide +kernel
theorem dL_law_19 : decode cL_law 19 = .ok (.ireturn, 1) := by decide +kernel
theorem dL_law_20 : decode cL_law 20 = .ok (.iconst 0, 1) := by decide +kernel
theorem dL_law_21 : decode cL_law 21 = .ok (.ireturn, 1) := by decide +kernel
theorem dL_feast_0 : decode cL_feast 0 = .ok (.aload_n 3, 1) := by decide +kernel
theorem dL_feast_1 : decode cL_feast 1 = .ok (.iconst 0, 1) := by decide +kernel
theorem dL_feast_2 : decode cL_feast 2 = .ok (.aload_n 0, 1) := by decide +kernel
theorem dL_feast_3 : decode cL_feast 3 = .ok (.iload_n 1, 1) := by decide +kernel
theorem dL_feast_4 : decode cL_feast 4 = .ok (.iload_n 2, 1) := by decide +kernel
theorem dL_feast_5 : decode cL_feast 5 = .ok (.invokevirtual 25, 3) := by decide +kernel
theorem dL_feast_8 : decode cL_feast 8 = .ok (.i2l, 1) := by decide +kernel
theorem dL_feast_9 : decode cL_feast 9 = .ok (.lastore, 1) := by decide +kernel
theorem dL_feast_10 : decode cL_feast 10 = .ok (.goto 11, 3) := by decide +kernel
theorem dL_feast_13 : decode cL_feast 13 = .ok (.astore 4, 2) := by decide +kernel
theorem dL_feast_15 : decode cL_feast 15 = .ok (.iconst 1, 1) := by decide +kernel
theorem dL_feast_16 : decode cL_feast 16 = .ok (.ireturn, 1) := by decide +kernel
theorem dL_feast_17 : decode cL_feast 17 = .ok (.astore 4, 2) := by decide +kernel
theorem dL_feast_19 : decode cL_feast 19 = .ok (.iconst 2, 1) := by decide +kernel
theorem dL_feast_20 : decode cL_feast 20 = .ok (.ireturn, 1) := by decide +kernel
theorem dL_feast_21 : decode cL_feast 21 = .ok (.iconst 0, 1) := by decide +kernel
theorem dL_feast_22 : decode cL_feast 22 = .ok (.ireturn, 1) := by decide +kernel
theorem dL_air_0 : decode cL_air 0 = .ok (.aload_n 2, 1) := by decide +kernel
theorem dL_air_1 : decode cL_air 1 = .ok (.iconst 0, 1) := by decide +kernel
theorem dL_air_2 : decode cL_air 2 = .ok (.aload_n 0, 1) := by decide +kernel
theorem dL_air_3 : decode cL_air 3 = .ok (.iload_n 1, 1) := by decide +kernel
theorem dL_air_4 : decode cL_air 4 = .ok (.invokevirtual 28, 3) := by decide +kernel
theorem dL_air_7 : decode cL_air 7 = .ok (.i2l, 1) := by decide +kernel
theorem dL_air_8 : decode cL_air 8 = .ok (.lastore, 1) := by decide +kernel
theorem dL_air_9 : decode cL_air 9 = .ok (.goto 6, 3) := by decide +kernel
theorem dL_air_12 : decode cL_air 12 = .ok (.astore_n 3, 1) := by decide +kernel
theorem dL_air_13 : decode cL_air 13 = .ok (.iconst 1, 1) := by decide +kernel
theorem dL_air_14 : decode cL_air 14 = .ok (.ireturn, 1) := by decide +kernel
theorem dL_air_15 : decode cL_air 15 = .ok (.iconst 0, 1) := by decide +kernel
theorem dL_air_16 : decode cL_air 16 = .ok (.ireturn, 1) := by decide +kernel
theorem dL_pass_0 : decode cL_pass 0 = .ok (.aload_n 2, 1) := by decide +kernel
theorem dL_pass_1 : decode cL_pass 1 = .ok (.iconst 0, 1) := by decide +kernel
theorem dL_pass_2 : decode cL_pass 2 = .ok (.aload_n 0, 1) := by decide +kernel
theorem dL_pass_3 : decode cL_pass 3 = .ok (.iload_n 1, 1) := by decide +kernel
theorem dL_pass_4 : decode cL_pass 4 = .ok (.invokevirtual 32, 3) := by decide +kernel
theorem dL_pass_7 : decode cL_pass 7 = .ok (.i2l, 1) := by decide +kernel
theorem dL_pass_8 : decode cL_pass 8 = .ok (.lastore, 1) := by decide +kernel
theorem dL_pass_9 : decode cL_pass 9 = .ok (.goto 9, 3) := by decide +kernel
theorem dL_pass_12 : decode cL_pass 12 = .ok (.astore_n 3, 1) := by decide +kernel
theorem dL_pass_13 : decode cL_pass 13 = .ok (.iconst 1, 1) := by decide +kernel
theorem dL_pass_14 : decode cL_pass 14 = .ok (.ireturn, 1) := by decide +kernel
theorem dL_pass_15 : decode cL_pass 15 = .ok (.astore_n 3, 1) := by decide +kernel
theorem dL_pass_16 : decode cL_pass 16 = .ok (.iconst 2, 1) := by decide +kernel
theorem dL_pass_17 : decode cL_pass 17 = .ok (.ireturn, 1) := by decide +kernel
theorem dL_pass_18 : decode cL_pass 18 = .ok (.iconst 0, 1) := by decide +kernel
theorem dL_pass_19 : decode cL_pass 19 = .ok (.ireturn, 1) := by decide +kernel
theorem dL_village_0 : decode cL_village 0 = .ok (.aload_n 3, 1) := by decide +kernel
theorem dL_village_1 : decode cL_village 1 = .ok (.iconst 0, 1) := by decide +kernel
theorem dL_village_2 : decode cL_village 2 = .ok (.aload_n 0, 1) := by decide +kernel
theorem dL_village_3 : decode cL_village 3 = .ok (.iload_n 1, 1) := by decide +kernel
theorem dL_village_4 : decode cL_village 4 = .ok (.iload_n 2, 1) := by decide +kernel
theorem dL_village_5 : decode cL_village 5 = .ok (.invokevirtual 37, 3) := by decide +kernel
theorem dL_village_8 : decode cL_village 8 = .ok (.i2l, 1) := by decide +kernel
theorem dL_village_9 : decode cL_village 9 = .ok (.lastore, 1) := by decide +kernel
theorem dL_village_10 : decode cL_village 10 = .ok (.goto 11, 3) := by decide +kernel
theorem dL_village_13 : decode cL_village 13 = .ok (.astore 4, 2) := by decide +kernel
theorem dL_village_15 : decode cL_village 15 = .ok (.iconst 1, 1) := by decide +kernel
theorem dL_village_16 : decode cL_village 16 = .ok (.ireturn, 1) := by decide +kernel
theorem dL_village_17 : decode cL_village 17 = .ok (.astore 4, 2) := by decide +kernel
theorem dL_village_19 : decode cL_village 19 = .ok (.iconst 2, 1) := by decide +kernel
theorem dL_village_20 : decode cL_village 20 = .ok (.ireturn, 1) := by decide +kernel
theorem dL_village_21 : decode cL_village 21 = .ok (.iconst 0, 1) := by decide +kernel
theorem dL_village_22 : decode cL_village 22 = .ok (.ireturn, 1) := by decide +kernel
theorem dL_lamp_0 : decode cL_lamp 0 = .ok (.aload 6, 2) := by decide +kernel
theorem dL_lamp_2 : decode cL_lamp 2 = .ok (.iconst 0, 1) := by decide +kernel
theorem dL_lamp_3 : decode cL_lamp 3 = .ok (.aload_n 0, 1) := by decide +kernel
theorem dL_lamp_4 : decode cL_lamp 4 = .ok (.iload_n 1, 1) := by decide +kernel
theorem dL_lamp_5 : decode cL_lamp 5 = .ok (.iload_n 2, 1) := by decide +kernel
theorem dL_lamp_6 : decode cL_lamp 6 = .ok (.iload_n 3, 1) := by decide +kernel
theorem dL_lamp_7 : decode cL_lamp 7 = .ok (.iload 4, 2) := by decide +kernel
theorem dL_lamp_9 : decode cL_lamp 9 = .ok (.iload 5, 2) := by decide +kernel
theorem dL_lamp_11 : decode cL_lamp 11 = .ok (.invokevirtual 40, 3) := by decide +kernel
theorem dL_lamp_14 : decode cL_lamp 14 = .ok (.i2l, 1) := by decide +kernel
theorem dL_lamp_15 : decode cL_lamp 15 = .ok (.lastore, 1) := by decide +kernel
theorem dL_lamp_16 : decode cL_lamp 16 = .ok (.goto 15, 3) := by decide +kernel
theorem dL_lamp_19 : decode cL_lamp 19 = .ok (.astore 7, 2) := by decide +kernel
theorem dL_lamp_21 : decode cL_lamp 21 = .ok (.iconst 1, 1) := by decide +kernel
theorem dL_lamp_22 : decode cL_lamp 22 = .ok (.ireturn, 1) := by decide +kernel
theorem dL_lamp_23 : decode cL_lamp 23 = .ok (.astore 7, 2) := by decide +kernel
theorem dL_lamp_25 : decode cL_lamp 25 = .ok (.iconst 2, 1) := by decide +kernel
theorem dL_lamp_26 : decode cL_lamp 26 = .ok (.ireturn, 1) := by decide +kernel
theorem dL_lamp_27 : decode cL_lamp 27 = .ok (.astore 7, 2) := by decide +kernel
theorem dL_lamp_29 : decode cL_lamp 29 = .ok (.iconst 3, 1) := by decide +kernel
theorem dL_lamp_30 : decode cL_lamp 30 = .ok (.ireturn, 1) := by decide +kernel
theorem dL_lamp_31 : decode cL_lamp 31 = .ok (.iconst 0, 1) := by decide +kernel
theorem dL_lamp_32 : decode cL_lamp 32 = .ok (.ireturn, 1) := by decide +kernel
theorem dL_hours_0 : decode cL_hours 0 = .ok (.aload_n 0, 1) := by decide +kernel
theorem dL_hours_1 : decode cL_hours 1 = .ok (.iload_n 1, 1) := by decide +kernel
theorem dL_hours_2 : decode cL_hours 2 = .ok (.iload_n 2, 1) := by decide +kernel
theorem dL_hours_3 : decode cL_hours 3 = .ok (.iload_n 3, 1) := by decide +kernel
theorem dL_hours_4 : decode cL_hours 4 = .ok (.invokevirtual 44, 3) := by decide +kernel
theorem dL_hours_7 : decode cL_hours 7 = .ok (.goto 15, 3) := by decide +kernel
theorem dL_hours_10 : decode cL_hours 10 = .ok (.astore 4, 2) := by decide +kernel
theorem dL_hours_12 : decode cL_hours 12 = .ok (.iconst 1, 1) := by decide +kernel
theorem dL_hours_13 : decode cL_hours 13 = .ok (.ireturn, 1) := by decide +kernel
theorem dL_hours_14 : decode cL_hours 14 = .ok (.astore 4, 2) := by decide +kernel
theorem dL_hours_16 : decode cL_hours 16 = .ok (.iconst 2, 1) := by decide +kernel
theorem dL_hours_17 : decode cL_hours 17 = .ok (.ireturn, 1) := by decide +kernel
theorem dL_hours_18 : decode cL_hours 18 = .ok (.astore 4, 2) := by decide +kernel
theorem dL_hours_20 : decode cL_hours 20 = .ok (.iconst 3, 1) := by decide +kernel
theorem dL_hours_21 : decode cL_hours 21 = .ok (.ireturn, 1) := by decide +kernel
theorem dL_hours_22 : decode cL_hours 22 = .ok (.iconst 0, 1) := by decide +kernel
theorem dL_hours_23 : decode cL_hours 23 = .ok (.ireturn, 1) := by decide +kernel
theorem dL_exempt_0 : decode cL_exempt 0 = .ok (.aload_n 3, 1) := by decide +kernel
theorem dL_exempt_1 : decode cL_exempt 1 = .ok (.iconst 0, 1) := by decide +kernel
theorem dL_exempt_2 : decode cL_exempt 2 = .ok (.aload_n 0, 1) := by decide +kernel
theorem dL_exempt_3 : decode cL_exempt 3 = .ok (.iload_n 1, 1) := by decide +kernel
theorem dL_exempt_4 : decode cL_exempt 4 = .ok (.iload_n 2, 1) := by decide +kernel
theorem dL_exempt_5 : decode cL_exempt 5 = .ok (.invokevirtual 48, 3) := by decide +kernel
theorem dL_exempt_8 : decode cL_exempt 8 = .ok (.ifCond .eq 7, 3) := by decide +kernel
theorem dL_exempt_11 : decode cL_exempt 11 = .ok (.lconst 1, 1) := by decide +kernel
theorem dL_exempt_12 : decode cL_exempt 12 = .ok (.goto 4, 3) := by decide +kernel
theorem dL_exempt_15 : decode cL_exempt 15 = .ok (.lconst 0, 1) := by decide +kernel
theorem dL_exempt_16 : decode cL_exempt 16 = .ok (.lastore, 1) := by decide +kernel
theorem dL_exempt_17 : decode cL_exempt 17 = .ok (.goto 7, 3) := by decide +kernel
theorem dL_exempt_20 : decode cL_exempt 20 = .ok (.astore 4, 2) := by decide +kernel
theorem dL_exempt_22 : decode cL_exempt 22 = .ok (.iconst 1, 1) := by decide +kernel
theorem dL_exempt_23 : decode cL_exempt 23 = .ok (.ireturn, 1) := by decide +kernel
theorem dL_exempt_24 : decode cL_exempt 24 = .ok (.iconst 0, 1) := by decide +kernel
theorem dL_exempt_25 : decode cL_exempt 25 = .ok (.ireturn, 1) := by decide +kernel
theorem dL_outage_0 : decode cL_outage 0 = .ok (.aload_n 3, 1) := by decide +kernel
theorem dL_outage_1 : decode cL_outage 1 = .ok (.iconst 0, 1) := by decide +kernel
theorem dL_outage_2 : decode cL_outage 2 = .ok (.aload_n 0, 1) := by decide +kernel
theorem dL_outage_3 : decode cL_outage 3 = .ok (.iload_n 1, 1) := by decide +kernel
theorem dL_outage_4 : decode cL_outage 4 = .ok (.iload_n 2, 1) := by decide +kernel
theorem dL_outage_5 : decode cL_outage 5 = .ok (.invokevirtual 51, 3) := by decide +kernel
theorem dL_outage_8 : decode cL_outage 8 = .ok (.i2l, 1) := by decide +kernel
theorem dL_outage_9 : decode cL_outage 9 = .ok (.lastore, 1) := by decide +kernel
theorem dL_outage_10 : decode cL_outage 10 = .ok (.goto 11, 3) := by decide +kernel
theorem dL_outage_13 : decode cL_outage 13 = .ok (.astore 4, 2) := by decide +kernel
theorem dL_outage_15 : decode cL_outage 15 = .ok (.iconst 1, 1) := by decide +kernel
theorem dL_outage_16 : decode cL_outage 16 = .ok (.ireturn, 1) := by decide +kernel
theorem dL_outage_17 : decode cL_outage 17 = .ok (.astore 4, 2) := by decide +kernel
theorem dL_outage_19 : decode cL_outage 19 = .ok (.iconst 2, 1) := by decide +kernel
theorem dL_outage_20 : decode cL_outage 20 = .ok (.ireturn, 1) := by decide +kernel
theorem dL_outage_21 : decode cL_outage 21 = .ok (.iconst 0, 1) := by decide +kernel
theorem dL_outage_22 : decode cL_outage 22 = .ok (.ireturn, 1) := by decide +kernel
theorem dL_vote_0 : decode cL_vote 0 = .ok (.aload 6, 2) := by decide +kernel
theorem dL_vote_2 : decode cL_vote 2 = .ok (.iconst 0, 1) := by decide +kernel
theorem dL_vote_3 : decode cL_vote 3 = .ok (.aload_n 0, 1) := by decide +kernel
theorem dL_vote_4 : decode cL_vote 4 = .ok (.iload_n 1, 1) := by decide +kernel
theorem dL_vote_5 : decode cL_vote 5 = .ok (.iload_n 2, 1) := by decide +kernel
theorem dL_vote_6 : decode cL_vote 6 = .ok (.iload_n 3, 1) := by decide +kernel
theorem dL_vote_7 : decode cL_vote 7 = .ok (.iload 4, 2) := by decide +kernel
theorem dL_vote_9 : decode cL_vote 9 = .ok (.iload 5, 2) := by decide +kernel
theorem dL_vote_11 : decode cL_vote 11 = .ok (.invokevirtual 54, 3) := by decide +kernel
theorem dL_vote_14 : decode cL_vote 14 = .ok (.i2l, 1) := by decide +kernel
theorem dL_vote_15 : decode cL_vote 15 = .ok (.lastore, 1) := by decide +kernel
theorem dL_vote_16 : decode cL_vote 16 = .ok (.goto 15, 3) := by decide +kernel
theorem dL_vote_19 : decode cL_vote 19 = .ok (.astore 7, 2) := by decide +kernel
theorem dL_vote_21 : decode cL_vote 21 = .ok (.iconst 1, 1) := by decide +kernel
theorem dL_vote_22 : decode cL_vote 22 = .ok (.ireturn, 1) := by decide +kernel
theorem dL_vote_23 : decode cL_vote 23 = .ok (.astore 7, 2) := by decide +kernel
theorem dL_vote_25 : decode cL_vote 25 = .ok (.iconst 2, 1) := by decide +kernel
theorem dL_vote_26 : decode cL_vote 26 = .ok (.ireturn, 1) := by decide +kernel
theorem dL_vote_27 : decode cL_vote 27 = .ok (.astore 7, 2) := by decide +kernel
theorem dL_vote_29 : decode cL_vote 29 = .ok (.iconst 3, 1) := by decide +kernel
theorem dL_vote_30 : decode cL_vote 30 = .ok (.ireturn, 1) := by decide +kernel
theorem dL_vote_31 : decode cL_vote 31 = .ok (.iconst 0, 1) := by decide +kernel
theorem dL_vote_32 : decode cL_vote 32 = .ok (.ireturn, 1) := by decide +kernel
theorem dL_inspect_0 : decode cL_inspect 0 = .ok (.aload_n 2, 1) := by decide +kernel
theorem dL_inspect_1 : decode cL_inspect 1 = .ok (.iconst 0, 1) := by decide +kernel
theorem dL_inspect_2 : decode cL_inspect 2 = .ok (.aload_n 0, 1) := by decide +kernel
theorem dL_inspect_3 : decode cL_inspect 3 = .ok (.iload_n 1, 1) := by decide +kernel
theorem dL_inspect_4 : decode cL_inspect 4 = .ok (.invokevirtual 57, 3) := by decide +kernel
theorem dL_inspect_7 : decode cL_inspect 7 = .ok (.i2l, 1) := by decide +kernel
theorem dL_inspect_8 : decode cL_inspect 8 = .ok (.lastore, 1) := by decide +kernel
theorem dL_inspect_9 : decode cL_inspect 9 = .ok (.goto 6, 3) := by decide +kernel
theorem dL_inspect_12 : decode cL_inspect 12 = .ok (.astore_n 3, 1) := by decide +kernel
theorem dL_inspect_13 : decode cL_inspect 13 = .ok (.iconst 1, 1) := by decide +kernel
theorem dL_inspect_14 : decode cL_inspect 14 = .ok (.ireturn, 1) := by decide +kernel
theorem dL_inspect_15 : decode cL_inspect 15 = .ok (.iconst 0, 1) := by decide +kernel
theorem dL_inspect_16 : decode cL_inspect 16 = .ok (.ireturn, 1) := by decide +kernel
theorem dL_meter_0 : decode cL_meter 0 = .ok (.aload 4, 2) := by decide +kernel
theorem dL_meter_2 : decode cL_meter 2 = .ok (.iconst 0, 1) := by decide +kernel
theorem dL_meter_3 : decode cL_meter 3 = .ok (.aload_n 0, 1) := by decide +kernel
theorem dL_meter_4 : decode cL_meter 4 = .ok (.iload_n 1, 1) := by decide +kernel
theorem dL_meter_5 : decode cL_meter 5 = .ok (.iload_n 2, 1) := by decide +kernel
theorem dL_meter_6 : decode cL_meter 6 = .ok (.iload_n 3, 1) := by decide +kernel
theorem dL_meter_7 : decode cL_meter 7 = .ok (.invokevirtual 60, 3) := by decide +kernel
theorem dL_meter_10 : decode cL_meter 10 = .ok (.i2l, 1) := by decide +kernel
theorem dL_meter_11 : decode cL_meter 11 = .ok (.lastore, 1) := by decide +kernel
theorem dL_meter_12 : decode cL_meter 12 = .ok (.goto 15, 3) := by decide +kernel
theorem dL_meter_15 : decode cL_meter 15 = .ok (.astore 5, 2) := by decide +kernel
theorem dL_meter_17 : decode cL_meter 17 = .ok (.iconst 1, 1) := by decide +kernel
theorem dL_meter_18 : decode cL_meter 18 = .ok (.ireturn, 1) := by decide +kernel
theorem dL_meter_19 : decode cL_meter 19 = .ok (.astore 5, 2) := by decide +kernel
theorem dL_meter_21 : decode cL_meter 21 = .ok (.iconst 2, 1) := by decide +kernel
theorem dL_meter_22 : decode cL_meter 22 = .ok (.ireturn, 1) := by decide +kernel
theorem dL_meter_23 : decode cL_meter 23 = .ok (.astore 5, 2) := by decide +kernel
theorem dL_meter_25 : decode cL_meter 25 = .ok (.iconst 3, 1) := by decide +kernel
theorem dL_meter_26 : decode cL_meter 26 = .ok (.ireturn, 1) := by decide +kernel
theorem dL_meter_27 : decode cL_meter 27 = .ok (.iconst 0, 1) := by decide +kernel
theorem dL_meter_28 : decode cL_meter 28 = .ok (.ireturn, 1) := by decide +kernel
theorem dL_read_0 : decode cL_read 0 = .ok (.aload_n 2, 1) := by decide +kernel
theorem dL_read_1 : decode cL_read 1 = .ok (.iconst 0, 1) := by decide +kernel
theorem dL_read_2 : decode cL_read 2 = .ok (.aload_n 0, 1) := by decide +kernel
theorem dL_read_3 : decode cL_read 3 = .ok (.iload_n 1, 1) := by decide +kernel
theorem dL_read_4 : decode cL_read 4 = .ok (.invokevirtual 64, 3) := by decide +kernel
theorem dL_read_7 : decode cL_read 7 = .ok (.i2l, 1) := by decide +kernel
theorem dL_read_8 : decode cL_read 8 = .ok (.lastore, 1) := by decide +kernel
theorem dL_read_9 : decode cL_read 9 = .ok (.goto 6, 3) := by decide +kernel
theorem dL_read_12 : decode cL_read 12 = .ok (.astore_n 3, 1) := by decide +kernel
theorem dL_read_13 : decode cL_read 13 = .ok (.iconst 1, 1) := by decide +kernel
theorem dL_read_14 : decode cL_read 14 = .ok (.ireturn, 1) := by decide +kernel
theorem dL_read_15 : decode cL_read 15 = .ok (.iconst 0, 1) := by decide +kernel
theorem dL_read_16 : decode cL_read 16 = .ok (.ireturn, 1) := by decide +kernel
theorem dL_tell_0 : decode cL_tell 0 = .ok (.aload_n 3, 1) := by decide +kernel
theorem dL_tell_1 : decode cL_tell 1 = .ok (.iconst 0, 1) := by decide +kernel
theorem dL_tell_2 : decode cL_tell 2 = .ok (.aload_n 0, 1) := by decide +kernel
theorem dL_tell_3 : decode cL_tell 3 = .ok (.iload_n 1, 1) := by decide +kernel
theorem dL_tell_4 : decode cL_tell 4 = .ok (.iload_n 2, 1) := by decide +kernel
theorem dL_tell_5 : decode cL_tell 5 = .ok (.invokevirtual 67, 3) := by decide +kernel
theorem dL_tell_8 : decode cL_tell 8 = .ok (.i2l, 1) := by decide +kernel
theorem dL_tell_9 : decode cL_tell 9 = .ok (.lastore, 1) := by decide +kernel
theorem dL_tell_10 : decode cL_tell 10 = .ok (.goto 11, 3) := by decide +kernel
theorem dL_tell_13 : decode cL_tell 13 = .ok (.astore 4, 2) := by decide +kernel
theorem dL_tell_15 : decode cL_tell 15 = .ok (.iconst 1, 1) := by decide +kernel
theorem dL_tell_16 : decode cL_tell 16 = .ok (.ireturn, 1) := by decide +kernel
theorem dL_tell_17 : decode cL_tell 17 = .ok (.astore 4, 2) := by decide +kernel
theorem dL_tell_19 : decode cL_tell 19 = .ok (.iconst 2, 1) := by decide +kernel
theorem dL_tell_20 : decode cL_tell 20 = .ok (.ireturn, 1) := by decide +kernel
theorem dL_tell_21 : decode cL_tell 21 = .ok (.iconst 0, 1) := by decide +kernel
theorem dL_tell_22 : decode cL_tell 22 = .ok (.ireturn, 1) := by decide +kernel
theorem dL_audit_0 : decode cL_audit 0 = .ok (.aload_n 2, 1) := by decide +kernel
theorem dL_audit_1 : decode cL_audit 1 = .ok (.iconst 0, 1) := by decide +kernel
theorem dL_audit_2 : decode cL_audit 2 = .ok (.aload_n 0, 1) := by decide +kernel
theorem dL_audit_3 : decode cL_audit 3 = .ok (.iload_n 1, 1) := by decide +kernel
theorem dL_audit_4 : decode cL_audit 4 = .ok (.invokevirtual 70, 3) := by decide +kernel
theorem dL_audit_7 : decode cL_audit 7 = .ok (.ifCond .eq 7, 3) := by decide +kernel
theorem dL_audit_10 : decode cL_audit 10 = .ok (.lconst 1, 1) := by decide +kernel
theorem dL_audit_11 : decode cL_audit 11 = .ok (.goto 4, 3) := by decide +kernel
theorem dL_audit_14 : decode cL_audit 14 = .ok (.lconst 0, 1) := by decide +kernel
theorem dL_audit_15 : decode cL_audit 15 = .ok (.lastore, 1) := by decide +kernel
theorem dL_audit_16 : decode cL_audit 16 = .ok (.goto 6, 3) := by decide +kernel
theorem dL_audit_19 : decode cL_audit 19 = .ok (.astore_n 3, 1) := by decide +kernel
theorem dL_audit_20 : decode cL_audit 20 = .ok (.iconst 1, 1) := by decide +kernel
theorem dL_audit_21 : decode cL_audit 21 = .ok (.ireturn, 1) := by decide +kernel
theorem dL_audit_22 : decode cL_audit 22 = .ok (.iconst 0, 1) := by decide +kernel
theorem dL_audit_23 : decode cL_audit 23 = .ok (.ireturn, 1) := by decide +kernel
theorem dL_satellite_0 : decode cL_satellite 0 = .ok (.aload_n 3, 1) := by decide +kernel
theorem dL_satellite_1 : decode cL_satellite 1 = .ok (.iconst 0, 1) := by decide +kernel
theorem dL_satellite_2 : decode cL_satellite 2 = .ok (.aload_n 0, 1) := by decide +kernel
theorem dL_satellite_3 : decode cL_satellite 3 = .ok (.iload_n 1, 1) := by decide +kernel
theorem dL_satellite_4 : decode cL_satellite 4 = .ok (.iload_n 2, 1) := by decide +kernel
theorem dL_satellite_5 : decode cL_satellite 5 = .ok (.invokevirtual 74, 3) := by decide +kernel
theorem dL_satellite_8 : decode cL_satellite 8 = .ok (.i2l, 1) := by decide +kernel
theorem dL_satellite_9 : decode cL_satellite 9 = .ok (.lastore, 1) := by decide +kernel
theorem dL_satellite_10 : decode cL_satellite 10 = .ok (.goto 11, 3) := by decide +kernel
theorem dL_satellite_13 : decode cL_satellite 13 = .ok (.astore 4, 2) := by decide +kernel
theorem dL_satellite_15 : decode cL_satellite 15 = .ok (.iconst 1, 1) := by decide +kernel
theorem dL_satellite_16 : decode cL_satellite 16 = .ok (.ireturn, 1) := by decide +kernel
theorem dL_satellite_17 : decode cL_satellite 17 = .ok (.astore 4, 2) := by decide +kernel
theorem dL_satellite_19 : decode cL_satellite 19 = .ok (.iconst 2, 1) := by decide +kernel
theorem dL_satellite_20 : decode cL_satellite 20 = .ok (.ireturn, 1) := by decide +kernel
theorem dL_satellite_21 : decode cL_satellite 21 = .ok (.iconst 0, 1) := by decide +kernel
theorem dL_satellite_22 : decode cL_satellite 22 = .ok (.ireturn, 1) := by decide +kernel
theorem dL_ofLamp_0 : decode cL_ofLamp 0 = .ok (.aload_n 3, 1) := by decide +kernel
theorem dL_ofLamp_1 : decode cL_ofLamp 1 = .ok (.iconst 0, 1) := by decide +kernel
theorem dL_ofLamp_2 : decode cL_ofLamp 2 = .ok (.aload_n 0, 1) := by decide +kernel
theorem dL_ofLamp_3 : decode cL_ofLamp 3 = .ok (.iload_n 1, 1) := by decide +kernel
theorem dL_ofLamp_4 : decode cL_ofLamp 4 = .ok (.iload_n 2, 1) := by decide +kernel
theorem dL_ofLamp_5 : decode cL_ofLamp 5 = .ok (.invokevirtual 77, 3) := by decide +kernel
theorem dL_ofLamp_8 : decode cL_ofLamp 8 = .ok (.i2l, 1) := by decide +kernel
theorem dL_ofLamp_9 : decode cL_ofLamp 9 = .ok (.lastore, 1) := by decide +kernel
theorem dL_ofLamp_10 : decode cL_ofLamp 10 = .ok (.goto 11, 3) := by decide +kernel
theorem dL_ofLamp_13 : decode cL_ofLamp 13 = .ok (.astore 4, 2) := by decide +kernel
theorem dL_ofLamp_15 : decode cL_ofLamp 15 = .ok (.iconst 1, 1) := by decide +kernel
theorem dL_ofLamp_16 : decode cL_ofLamp 16 = .ok (.ireturn, 1) := by decide +kernel
theorem dL_ofLamp_17 : decode cL_ofLamp 17 = .ok (.astore 4, 2) := by decide +kernel
theorem dL_ofLamp_19 : decode cL_ofLamp 19 = .ok (.iconst 2, 1) := by decide +kernel
theorem dL_ofLamp_20 : decode cL_ofLamp 20 = .ok (.ireturn, 1) := by decide +kernel
theorem dL_ofLamp_21 : decode cL_ofLamp 21 = .ok (.iconst 0, 1) := by decide +kernel
theorem dL_ofLamp_22 : decode cL_ofLamp 22 = .ok (.ireturn, 1) := by decide +kernel
theorem dL_ofVillage_0 : decode cL_ofVillage 0 = .ok (.aload_n 3, 1) := by decide +kernel
theorem dL_ofVillage_1 : decode cL_ofVillage 1 = .ok (.iconst 0, 1) := by decide +kernel
theorem dL_ofVillage_2 : decode cL_ofVillage 2 = .ok (.aload_n 0, 1) := by decide +kernel
theorem dL_ofVillage_3 : decode cL_ofVillage 3 = .ok (.iload_n 1, 1) := by decide +kernel
theorem dL_ofVillage_4 : decode cL_ofVillage 4 = .ok (.iload_n 2, 1) := by decide +kernel
theorem dL_ofVillage_5 : decode cL_ofVillage 5 = .ok (.invokevirtual 80, 3) := by decide +kernel
theorem dL_ofVillage_8 : decode cL_ofVillage 8 = .ok (.i2l, 1) := by decide +kernel
theorem dL_ofVillage_9 : decode cL_ofVillage 9 = .ok (.lastore, 1) := by decide +kernel
theorem dL_ofVillage_10 : decode cL_ofVillage 10 = .ok (.goto 11, 3) := by decide +kernel
theorem dL_ofVillage_13 : decode cL_ofVillage 13 = .ok (.astore 4, 2) := by decide +kernel
theorem dL_ofVillage_15 : decode cL_ofVillage 15 = .ok (.iconst 1, 1) := by decide +kernel
theorem dL_ofVillage_16 : decode cL_ofVillage 16 = .ok (.ireturn, 1) := by decide +kernel
theorem dL_ofVillage_17 : decode cL_ofVillage 17 = .ok (.astore 4, 2) := by decide +kernel
theorem dL_ofVillage_19 : decode cL_ofVillage 19 = .ok (.iconst 2, 1) := by decide +kernel
theorem dL_ofVillage_20 : decode cL_ofVillage 20 = .ok (.ireturn, 1) := by decide +kernel
theorem dL_ofVillage_21 : decode cL_ofVillage 21 = .ok (.iconst 0, 1) := by decide +kernel
theorem dL_ofVillage_22 : decode cL_ofVillage 22 = .ok (.ireturn, 1) := by decide +kernel
theorem dL_gives_0 : decode cL_gives 0 = .ok (.aload_n 3, 1) := by decide +kernel
theorem dL_gives_1 : decode cL_gives 1 = .ok (.iconst 0, 1) := by decide +kernel
theorem dL_gives_2 : decode cL_gives 2 = .ok (.aload_n 0, 1) := by decide +kernel
theorem dL_gives_3 : decode cL_gives 3 = .ok (.iload_n 1, 1) := by decide +kernel
theorem dL_gives_4 : decode cL_gives 4 = .ok (.iload_n 2, 1) := by decide +kernel
theorem dL_gives_5 : decode cL_gives 5 = .ok (.invokevirtual 83, 3) := by decide +kernel
theorem dL_gives_8 : decode cL_gives 8 = .ok (.i2l, 1) := by decide +kernel
theorem dL_gives_9 : decode cL_gives 9 = .ok (.lastore, 1) := by decide +kernel
theorem dL_gives_10 : decode cL_gives 10 = .ok (.goto 7, 3) := by decide +kernel
theorem dL_gives_13 : decode cL_gives 13 = .ok (.astore 4, 2) := by decide +kernel
theorem dL_gives_15 : decode cL_gives 15 = .ok (.iconst 1, 1) := by decide +kernel
theorem dL_gives_16 : decode cL_gives 16 = .ok (.ireturn, 1) := by decide +kernel
theorem dL_gives_17 : decode cL_gives 17 = .ok (.iconst 0, 1) := by decide +kernel
theorem dL_gives_18 : decode cL_gives 18 = .ok (.ireturn, 1) := by decide +kernel
theorem dL_glow_0 : decode cL_glow 0 = .ok (.aload_n 2, 1) := by decide +kernel
theorem dL_glow_1 : decode cL_glow 1 = .ok (.iconst 0, 1) := by decide +kernel
theorem dL_glow_2 : decode cL_glow 2 = .ok (.aload_n 0, 1) := by decide +kernel
theorem dL_glow_3 : decode cL_glow 3 = .ok (.iload_n 1, 1) := by decide +kernel
theorem dL_glow_4 : decode cL_glow 4 = .ok (.invokevirtual 86, 3) := by decide +kernel
theorem dL_glow_7 : decode cL_glow 7 = .ok (.i2l, 1) := by decide +kernel
theorem dL_glow_8 : decode cL_glow 8 = .ok (.lastore, 1) := by decide +kernel
theorem dL_glow_9 : decode cL_glow 9 = .ok (.goto 6, 3) := by decide +kernel
theorem dL_glow_12 : decode cL_glow 12 = .ok (.astore_n 3, 1) := by decide +kernel
theorem dL_glow_13 : decode cL_glow 13 = .ok (.iconst 1, 1) := by decide +kernel
theorem dL_glow_14 : decode cL_glow 14 = .ok (.ireturn, 1) := by decide +kernel
theorem dL_glow_15 : decode cL_glow 15 = .ok (.iconst 0, 1) := by decide +kernel
theorem dL_glow_16 : decode cL_glow 16 = .ok (.ireturn, 1) := by decide +kernel
theorem dL_glowFrom_0 : decode cL_glowFrom 0 = .ok (.aload_n 3, 1) := by decide +kernel
theorem dL_glowFrom_1 : decode cL_glowFrom 1 = .ok (.iconst 0, 1) := by decide +kernel
theorem dL_glowFrom_2 : decode cL_glowFrom 2 = .ok (.aload_n 0, 1) := by decide +kernel
theorem dL_glowFrom_3 : decode cL_glowFrom 3 = .ok (.iload_n 1, 1) := by decide +kernel
theorem dL_glowFrom_4 : decode cL_glowFrom 4 = .ok (.iload_n 2, 1) := by decide +kernel
theorem dL_glowFrom_5 : decode cL_glowFrom 5 = .ok (.invokevirtual 89, 3) := by decide +kernel
theorem dL_glowFrom_8 : decode cL_glowFrom 8 = .ok (.i2l, 1) := by decide +kernel
theorem dL_glowFrom_9 : decode cL_glowFrom 9 = .ok (.lastore, 1) := by decide +kernel
theorem dL_glowFrom_10 : decode cL_glowFrom 10 = .ok (.goto 11, 3) := by decide +kernel
theorem dL_glowFrom_13 : decode cL_glowFrom 13 = .ok (.astore 4, 2) := by decide +kernel
theorem dL_glowFrom_15 : decode cL_glowFrom 15 = .ok (.iconst 1, 1) := by decide +kernel
theorem dL_glowFrom_16 : decode cL_glowFrom 16 = .ok (.ireturn, 1) := by decide +kernel
theorem dL_glowFrom_17 : decode cL_glowFrom 17 = .ok (.astore 4, 2) := by decide +kernel
theorem dL_glowFrom_19 : decode cL_glowFrom 19 = .ok (.iconst 2, 1) := by decide +kernel
theorem dL_glowFrom_20 : decode cL_glowFrom 20 = .ok (.ireturn, 1) := by decide +kernel
theorem dL_glowFrom_21 : decode cL_glowFrom 21 = .ok (.iconst 0, 1) := by decide +kernel
theorem dL_glowFrom_22 : decode cL_glowFrom 22 = .ok (.ireturn, 1) := by decide +kernel
theorem dL_ground_0 : decode cL_ground 0 = .ok (.aload_n 2, 1) := by decide +kernel
theorem dL_ground_1 : decode cL_ground 1 = .ok (.iconst 0, 1) := by decide +kernel
theorem dL_ground_2 : decode cL_ground 2 = .ok (.aload_n 0, 1) := by decide +kernel
theorem dL_ground_3 : decode cL_ground 3 = .ok (.iload_n 1, 1) := by decide +kernel
theorem dL_ground_4 : decode cL_ground 4 = .ok (.invokevirtual 92, 3) := by decide +kernel
theorem dL_ground_7 : decode cL_ground 7 = .ok (.i2l, 1) := by decide +kernel
theorem dL_ground_8 : decode cL_ground 8 = .ok (.lastore, 1) := by decide +kernel
theorem dL_ground_9 : decode cL_ground 9 = .ok (.goto 6, 3) := by decide +kernel
theorem dL_ground_12 : decode cL_ground 12 = .ok (.astore_n 3, 1) := by decide +kernel
theorem dL_ground_13 : decode cL_ground 13 = .ok (.iconst 1, 1) := by decide +kernel
theorem dL_ground_14 : decode cL_ground 14 = .ok (.ireturn, 1) := by decide +kernel
theorem dL_ground_15 : decode cL_ground 15 = .ok (.iconst 0, 1) := by decide +kernel
theorem dL_ground_16 : decode cL_ground 16 = .ok (.ireturn, 1) := by decide +kernel
theorem dL_way_0 : decode cL_way 0 = .ok (.aload 4, 2) := by decide +kernel
theorem dL_way_2 : decode cL_way 2 = .ok (.iconst 0, 1) := by decide +kernel
theorem dL_way_3 : decode cL_way 3 = .ok (.aload_n 0, 1) := by decide +kernel
theorem dL_way_4 : decode cL_way 4 = .ok (.iload_n 1, 1) := by decide +kernel
theorem dL_way_5 : decode cL_way 5 = .ok (.iload_n 2, 1) := by decide +kernel
theorem dL_way_6 : decode cL_way 6 = .ok (.iload_n 3, 1) := by decide +kernel
theorem dL_way_7 : decode cL_way 7 = .ok (.invokevirtual 95, 3) := by decide +kernel
theorem dL_way_10 : decode cL_way 10 = .ok (.i2l, 1) := by decide +kernel
theorem dL_way_11 : decode cL_way 11 = .ok (.lastore, 1) := by decide +kernel
theorem dL_way_12 : decode cL_way 12 = .ok (.goto 11, 3) := by decide +kernel
theorem dL_way_15 : decode cL_way 15 = .ok (.astore 5, 2) := by decide +kernel
theorem dL_way_17 : decode cL_way 17 = .ok (.iconst 1, 1) := by decide +kernel
theorem dL_way_18 : decode cL_way 18 = .ok (.ireturn, 1) := by decide +kernel
theorem dL_way_19 : decode cL_way 19 = .ok (.astore 5, 2) := by decide +kernel
theorem dL_way_21 : decode cL_way 21 = .ok (.iconst 2, 1) := by decide +kernel
theorem dL_way_22 : decode cL_way 22 = .ok (.ireturn, 1) := by decide +kernel
theorem dL_way_23 : decode cL_way 23 = .ok (.iconst 0, 1) := by decide +kernel
theorem dL_way_24 : decode cL_way 24 = .ok (.ireturn, 1) := by decide +kernel
theorem dL_ofReading_0 : decode cL_ofReading 0 = .ok (.aload 4, 2) := by decide +kernel
theorem dL_ofReading_2 : decode cL_ofReading 2 = .ok (.iconst 0, 1) := by decide +kernel
theorem dL_ofReading_3 : decode cL_ofReading 3 = .ok (.aload_n 0, 1) := by decide +kernel
theorem dL_ofReading_4 : decode cL_ofReading 4 = .ok (.iload_n 1, 1) := by decide +kernel
theorem dL_ofReading_5 : decode cL_ofReading 5 = .ok (.iload_n 2, 1) := by decide +kernel
theorem dL_ofReading_6 : decode cL_ofReading 6 = .ok (.iload_n 3, 1) := by decide +kernel
theorem dL_ofReading_7 : decode cL_ofReading 7 = .ok (.invokevirtual 98, 3) := by decide +kernel
theorem dL_ofReading_10 : decode cL_ofReading 10 = .ok (.i2l, 1) := by decide +kernel
theorem dL_ofReading_11 : decode cL_ofReading 11 = .ok (.lastore, 1) := by decide +kernel
theorem dL_ofReading_12 : decode cL_ofReading 12 = .ok (.goto 11, 3) := by decide +kernel
theorem dL_ofReading_15 : decode cL_ofReading 15 = .ok (.astore 5, 2) := by decide +kernel
theorem dL_ofReading_17 : decode cL_ofReading 17 = .ok (.iconst 1, 1) := by decide +kernel
theorem dL_ofReading_18 : decode cL_ofReading 18 = .ok (.ireturn, 1) := by decide +kernel
theorem dL_ofReading_19 : decode cL_ofReading 19 = .ok (.astore 5, 2) := by decide +kernel
theorem dL_ofReading_21 : decode cL_ofReading 21 = .ok (.iconst 2, 1) := by decide +kernel
theorem dL_ofReading_22 : decode cL_ofReading 22 = .ok (.ireturn, 1) := by decide +kernel
theorem dL_ofReading_23 : decode cL_ofReading 23 = .ok (.iconst 0, 1) := by decide +kernel
theorem dL_ofReading_24 : decode cL_ofReading 24 = .ok (.ireturn, 1) := by decide +kernel
theorem dL_trend_0 : decode cL_trend 0 = .ok (.aload_n 2, 1) := by decide +kernel
theorem dL_trend_1 : decode cL_trend 1 = .ok (.iconst 0, 1) := by decide +kernel
theorem dL_trend_2 : decode cL_trend 2 = .ok (.aload_n 0, 1) := by decide +kernel
theorem dL_trend_3 : decode cL_trend 3 = .ok (.iload_n 1, 1) := by decide +kernel
theorem dL_trend_4 : decode cL_trend 4 = .ok (.invokevirtual 101, 3) := by decide +kernel
theorem dL_trend_7 : decode cL_trend 7 = .ok (.lastore, 1) := by decide +kernel
theorem dL_trend_8 : decode cL_trend 8 = .ok (.goto 9, 3) := by decide +kernel
theorem dL_trend_11 : decode cL_trend 11 = .ok (.astore_n 3, 1) := by decide +kernel
theorem dL_trend_12 : decode cL_trend 12 = .ok (.iconst 1, 1) := by decide +kernel
theorem dL_trend_13 : decode cL_trend 13 = .ok (.ireturn, 1) := by decide +kernel
theorem dL_trend_14 : decode cL_trend 14 = .ok (.astore_n 3, 1) := by decide +kernel
theorem dL_trend_15 : decode cL_trend 15 = .ok (.iconst 2, 1) := by decide +kernel
theorem dL_trend_16 : decode cL_trend 16 = .ok (.ireturn, 1) := by decide +kernel
theorem dL_trend_17 : decode cL_trend 17 = .ok (.iconst 0, 1) := by decide +kernel
theorem dL_trend_18 : decode cL_trend 18 = .ok (.ireturn, 1) := by decide +kernel
theorem dL_trails_0 : decode cL_trails 0 = .ok (.aload_n 3, 1) := by decide +kernel
theorem dL_trails_1 : decode cL_trails 1 = .ok (.iconst 0, 1) := by decide +kernel
theorem dL_trails_2 : decode cL_trails 2 = .ok (.aload_n 0, 1) := by decide +kernel
theorem dL_trails_3 : decode cL_trails 3 = .ok (.iload_n 1, 1) := by decide +kernel
theorem dL_trails_4 : decode cL_trails 4 = .ok (.iload_n 2, 1) := by decide +kernel
theorem dL_trails_5 : decode cL_trails 5 = .ok (.invokevirtual 105, 3) := by decide +kernel
theorem dL_trails_8 : decode cL_trails 8 = .ok (.i2l, 1) := by decide +kernel
theorem dL_trails_9 : decode cL_trails 9 = .ok (.lastore, 1) := by decide +kernel
theorem dL_trails_10 : decode cL_trails 10 = .ok (.goto 7, 3) := by decide +kernel
theorem dL_trails_13 : decode cL_trails 13 = .ok (.astore 4, 2) := by decide +kernel
theorem dL_trails_15 : decode cL_trails 15 = .ok (.iconst 1, 1) := by decide +kernel
theorem dL_trails_16 : decode cL_trails 16 = .ok (.ireturn, 1) := by decide +kernel
theorem dL_trails_17 : decode cL_trails 17 = .ok (.iconst 0, 1) := by decide +kernel
theorem dL_trails_18 : decode cL_trails 18 = .ok (.ireturn, 1) := by decide +kernel
theorem dL_culprit_0 : decode cL_culprit 0 = .ok (.aload_n 2, 1) := by decide +kernel
theorem dL_culprit_1 : decode cL_culprit 1 = .ok (.iconst 0, 1) := by decide +kernel
theorem dL_culprit_2 : decode cL_culprit 2 = .ok (.aload_n 0, 1) := by decide +kernel
theorem dL_culprit_3 : decode cL_culprit 3 = .ok (.iload_n 1, 1) := by decide +kernel
theorem dL_culprit_4 : decode cL_culprit 4 = .ok (.invokevirtual 108, 3) := by decide +kernel
theorem dL_culprit_7 : decode cL_culprit 7 = .ok (.i2l, 1) := by decide +kernel
theorem dL_culprit_8 : decode cL_culprit 8 = .ok (.lastore, 1) := by decide +kernel
theorem dL_culprit_9 : decode cL_culprit 9 = .ok (.goto 6, 3) := by decide +kernel
theorem dL_culprit_12 : decode cL_culprit 12 = .ok (.astore_n 3, 1) := by decide +kernel
theorem dL_culprit_13 : decode cL_culprit 13 = .ok (.iconst 1, 1) := by decide +kernel
theorem dL_culprit_14 : decode cL_culprit 14 = .ok (.ireturn, 1) := by decide +kernel
theorem dL_culprit_15 : decode cL_culprit 15 = .ok (.iconst 0, 1) := by decide +kernel
theorem dL_culprit_16 : decode cL_culprit 16 = .ok (.ireturn, 1) := by decide +kernel
theorem dL_plan_0 : decode cL_plan 0 = .ok (.aload 4, 2) := by decide +kernel
theorem dL_plan_2 : decode cL_plan 2 = .ok (.iconst 0, 1) := by decide +kernel
theorem dL_plan_3 : decode cL_plan 3 = .ok (.aload_n 0, 1) := by decide +kernel
theorem dL_plan_4 : decode cL_plan 4 = .ok (.iload_n 1, 1) := by decide +kernel
theorem dL_plan_5 : decode cL_plan 5 = .ok (.iload_n 2, 1) := by decide +kernel
theorem dL_plan_6 : decode cL_plan 6 = .ok (.iload_n 3, 1) := by decide +kernel
theorem dL_plan_7 : decode cL_plan 7 = .ok (.invokevirtual 111, 3) := by decide +kernel
theorem dL_plan_10 : decode cL_plan 10 = .ok (.i2l, 1) := by decide +kernel
theorem dL_plan_11 : decode cL_plan 11 = .ok (.lastore, 1) := by decide +kernel
theorem dL_plan_12 : decode cL_plan 12 = .ok (.goto 11, 3) := by decide +kernel
theorem dL_plan_15 : decode cL_plan 15 = .ok (.astore 5, 2) := by decide +kernel
theorem dL_plan_17 : decode cL_plan 17 = .ok (.iconst 1, 1) := by decide +kernel
theorem dL_plan_18 : decode cL_plan 18 = .ok (.ireturn, 1) := by decide +kernel
theorem dL_plan_19 : decode cL_plan 19 = .ok (.astore 5, 2) := by decide +kernel
theorem dL_plan_21 : decode cL_plan 21 = .ok (.iconst 2, 1) := by decide +kernel
theorem dL_plan_22 : decode cL_plan 22 = .ok (.ireturn, 1) := by decide +kernel
theorem dL_plan_23 : decode cL_plan 23 = .ok (.iconst 0, 1) := by decide +kernel
theorem dL_plan_24 : decode cL_plan 24 = .ok (.ireturn, 1) := by decide +kernel
theorem dL_law__0 : decode cL_law_ 0 = .ok (.new 8, 3) := by decide +kernel
theorem dL_law__3 : decode cL_law_ 3 = .ok (.dup, 1) := by decide +kernel
theorem dL_law__4 : decode cL_law_ 4 = .ok (.invokespecial 114, 3) := by decide +kernel
theorem dL_law__7 : decode cL_law_ 7 = .ok (.astore_n 1, 1) := by decide +kernel
theorem dL_law__8 : decode cL_law_ 8 = .ok (.new 115, 3) := by decide +kernel
theorem dL_law__11 : decode cL_law_ 11 = .ok (.dup, 1) := by decide +kernel
theorem dL_law__12 : decode cL_law_ 12 = .ok (.invokespecial 117, 3) := by decide +kernel
theorem dL_law__15 : decode cL_law_ 15 = .ok (.astore_n 2, 1) := by decide +kernel
theorem dL_law__16 : decode cL_law_ 16 = .ok (.iconst 1, 1) := by decide +kernel
theorem dL_law__17 : decode cL_law_ 17 = .ok (.newarray .long, 2) := by decide +kernel
theorem dL_law__19 : decode cL_law_ 19 = .ok (.astore_n 3, 1) := by decide +kernel
theorem dL_law__20 : decode cL_law_ 20 = .ok (.iconst 0, 1) := by decide +kernel
theorem dL_law__21 : decode cL_law_ 21 = .ok (.istore 4, 2) := by decide +kernel
theorem dL_law__23 : decode cL_law_ 23 = .ok (.iload 4, 2) := by decide +kernel
theorem dL_law__25 : decode cL_law_ 25 = .ok (.aload_n 0, 1) := by decide +kernel
theorem dL_law__26 : decode cL_law_ 26 = .ok (.arraylength, 1) := by decide +kernel
theorem dL_law__27 : decode cL_law_ 27 = .ok (.bipush 6, 2) := by decide +kernel
theorem dL_law__29 : decode cL_law_ 29 = .ok (.isub, 1) := by decide +kernel
theorem dL_law__30 : decode cL_law_ 30 = .ok (.if_icmp .gt 2286, 3) := by decide +kernel
theorem dL_law__33 : decode cL_law_ 33 = .ok (.aload_n 0, 1) := by decide +kernel
theorem dL_law__34 : decode cL_law_ 34 = .ok (.iload 4, 2) := by decide +kernel
theorem dL_law__36 : decode cL_law_ 36 = .ok (.iaload, 1) := by decide +kernel
theorem dL_law__37 : decode cL_law_ 37 = .ok (.bipush 31, 2) := by decide +kernel
theorem dL_law__39 : decode cL_law_ 39 = .ok (.iand, 1) := by decide +kernel
theorem dL_law__40 : decode cL_law_ 40 = .ok (.tableswitch 2270 0 31 #[144, 235, 303, 375, 443, 499, 555, 623, 727, 787, 878, 946, 1050, 1106, 1186, 1242, 1310, 1373, 1441, 1454, 1522, 1590, 1658, 1714, 1782, 1838, 1918, 1998, 2053, 2066, 2134, 2190], 144) := by decide +kernel
theorem dL_law__184 : decode cL_law_ 184 = .ok (.aload_n 1, 1) := by decide +kernel
theorem dL_law__185 : decode cL_law_ 185 = .ok (.aload_n 0, 1) := by decide +kernel
theorem dL_law__186 : decode cL_law_ 186 = .ok (.iload 4, 2) := by decide +kernel
theorem dL_law__188 : decode cL_law_ 188 = .ok (.iconst 1, 1) := by decide +kernel
theorem dL_law__189 : decode cL_law_ 189 = .ok (.iadd, 1) := by decide +kernel
theorem dL_law__190 : decode cL_law_ 190 = .ok (.iaload, 1) := by decide +kernel
theorem dL_law__191 : decode cL_law_ 191 = .ok (.aload_n 0, 1) := by decide +kernel
theorem dL_law__192 : decode cL_law_ 192 = .ok (.iload 4, 2) := by decide +kernel
theorem dL_law__194 : decode cL_law_ 194 = .ok (.iconst 2, 1) := by decide +kernel
theorem dL_law__195 : decode cL_law_ 195 = .ok (.iadd, 1) := by decide +kernel
theorem dL_law__196 : decode cL_law_ 196 = .ok (.iaload, 1) := by decide +kernel
theorem dL_law__197 : decode cL_law_ 197 = .ok (.ifCond .eq 7, 3) := by decide +kernel
theorem dL_law__200 : decode cL_law_ 200 = .ok (.iconst 1, 1) := by decide +kernel
theorem dL_law__201 : decode cL_law_ 201 = .ok (.goto 4, 3) := by decide +kernel
theorem dL_law__204 : decode cL_law_ 204 = .ok (.iconst 0, 1) := by decide +kernel
theorem dL_law__205 : decode cL_law_ 205 = .ok (.aload_n 3, 1) := by decide +kernel
theorem dL_law__206 : decode cL_law_ 206 = .ok (.invokestatic 118, 3) := by decide +kernel
theorem dL_law__209 : decode cL_law_ 209 = .ok (.istore 5, 2) := by decide +kernel
theorem dL_law__211 : decode cL_law_ 211 = .ok (.aload_n 2, 1) := by decide +kernel
theorem dL_law__212 : decode cL_law_ 212 = .ok (.aload_n 0, 1) := by decide +kernel
theorem dL_law__213 : decode cL_law_ 213 = .ok (.iload 4, 2) := by decide +kernel
theorem dL_law__215 : decode cL_law_ 215 = .ok (.iconst 1, 1) := by decide +kernel
theorem dL_law__216 : decode cL_law_ 216 = .ok (.iadd, 1) := by decide +kernel
theorem dL_law__217 : decode cL_law_ 217 = .ok (.iaload, 1) := by decide +kernel
theorem dL_law__218 : decode cL_law_ 218 = .ok (.aload_n 0, 1) := by decide +kernel
theorem dL_law__219 : decode cL_law_ 219 = .ok (.iload 4, 2) := by decide +kernel
theorem dL_law__221 : decode cL_law_ 221 = .ok (.iconst 2, 1) := by decide +kernel
theorem dL_law__222 : decode cL_law_ 222 = .ok (.iadd, 1) := by decide +kernel
theorem dL_law__223 : decode cL_law_ 223 = .ok (.iaload, 1) := by decide +kernel
theorem dL_law__224 : decode cL_law_ 224 = .ok (.ifCond .eq 7, 3) := by decide +kernel
theorem dL_law__227 : decode cL_law_ 227 = .ok (.iconst 1, 1) := by decide +kernel
theorem dL_law__228 : decode cL_law_ 228 = .ok (.goto 4, 3) := by decide +kernel
theorem dL_law__231 : decode cL_law_ 231 = .ok (.iconst 0, 1) := by decide +kernel
theorem dL_law__232 : decode cL_law_ 232 = .ok (.invokevirtual 123, 3) := by decide +kernel
theorem dL_law__235 : decode cL_law_ 235 = .ok (.istore 6, 2) := by decide +kernel
theorem dL_law__237 : decode cL_law_ 237 = .ok (.aload_n 2, 1) := by decide +kernel
theorem dL_law__238 : decode cL_law_ 238 = .ok (.invokevirtual 124, 3) := by decide +kernel
theorem dL_law__241 : decode cL_law_ 241 = .ok (.iload 5, 2) := by decide +kernel
theorem dL_law__243 : decode cL_law_ 243 = .ok (.if_icmp .eq 5, 3) := by decide +kernel
theorem dL_law__246 : decode cL_law_ 246 = .ok (.iconst 0, 1) := by decide +kernel
theorem dL_law__247 : decode cL_law_ 247 = .ok (.ireturn, 1) := by decide +kernel
theorem dL_law__248 : decode cL_law_ 248 = .ok (.iload 5, 2) := by decide +kernel
theorem dL_law__250 : decode cL_law_ 250 = .ok (.ifCond .ne 22, 3) := by decide +kernel
theorem dL_law__253 : decode cL_law_ 253 = .ok (.aload_n 3, 1) := by decide +kernel
theorem dL_law__254 : decode cL_law_ 254 = .ok (.iconst 0, 1) := by decide +kernel
theorem dL_law__255 : decode cL_law_ 255 = .ok (.laload, 1) := by decide +kernel
theorem dL_law__256 : decode cL_law_ 256 = .ok (.iload 6, 2) := by decide +kernel
theorem dL_law__258 : decode cL_law_ 258 = .ok (.ifCond .eq 7, 3) := by decide +kernel
theorem dL_law__261 : decode cL_law_ 261 = .ok (.lconst 1, 1) := by decide +kernel
theorem dL_law__262 : decode cL_law_ 262 = .ok (.goto 4, 3) := by decide +kernel
theorem dL_law__265 : decode cL_law_ 265 = .ok (.lconst 0, 1) := by decide +kernel
theorem dL_law__266 : decode cL_law_ 266 = .ok (.lcmp, 1) := by decide +kernel
theorem dL_law__267 : decode cL_law_ 267 = .ok (.ifCond .eq 5, 3) := by decide +kernel
theorem dL_law__270 : decode cL_law_ 270 = .ok (.iconst 0, 1) := by decide +kernel
theorem dL_law__271 : decode cL_law_ 271 = .ok (.ireturn, 1) := by decide +kernel
theorem dL_law__272 : decode cL_law_ 272 = .ok (.goto 2038, 3) := by decide +kernel
theorem dL_law__275 : decode cL_law_ 275 = .ok (.aload_n 1, 1) := by decide +kernel
theorem dL_law__276 : decode cL_law_ 276 = .ok (.aload_n 0, 1) := by decide +kernel
theorem dL_law__277 : decode cL_law_ 277 = .ok (.iload 4, 2) := by decide +kernel
theorem dL_law__279 : decode cL_law_ 279 = .ok (.iconst 1, 1) := by decide +kernel
theorem dL_law__280 : decode cL_law_ 280 = .ok (.iadd, 1) := by decide +kernel
theorem dL_law__281 : decode cL_law_ 281 = .ok (.iaload, 1) := by decide +kernel
theorem dL_law__282 : decode cL_law_ 282 = .ok (.aload_n 0, 1) := by decide +kernel
theorem dL_law__283 : decode cL_law_ 283 = .ok (.iload 4, 2) := by decide +kernel
theorem dL_law__285 : decode cL_law_ 285 = .ok (.iconst 2, 1) := by decide +kernel
theorem dL_law__286 : decode cL_law_ 286 = .ok (.iadd, 1) := by decide +kernel
theorem dL_law__287 : decode cL_law_ 287 = .ok (.iaload, 1) := by decide +kernel
theorem dL_law__288 : decode cL_law_ 288 = .ok (.aload_n 3, 1) := by decide +kernel
theorem dL_law__289 : decode cL_law_ 289 = .ok (.invokestatic 128, 3) := by decide +kernel
theorem dL_law__292 : decode cL_law_ 292 = .ok (.istore 5, 2) := by decide +kernel
theorem dL_law__294 : decode cL_law_ 294 = .ok (.aload_n 2, 1) := by decide +kernel
theorem dL_law__295 : decode cL_law_ 295 = .ok (.aload_n 0, 1) := by decide +kernel
theorem dL_law__296 : decode cL_law_ 296 = .ok (.iload 4, 2) := by decide +kernel
theorem dL_law__298 : decode cL_law_ 298 = .ok (.iconst 1, 1) := by decide +kernel
theorem dL_law__299 : decode cL_law_ 299 = .ok (.iadd, 1) := by decide +kernel
theorem dL_law__300 : decode cL_law_ 300 = .ok (.iaload, 1) := by decide +kernel
theorem dL_law__301 : decode cL_law_ 301 = .ok (.aload_n 0, 1) := by decide +kernel
theorem dL_law__302 : decode cL_law_ 302 = .ok (.iload 4, 2) := by decide +kernel
theorem dL_law__304 : decode cL_law_ 304 = .ok (.iconst 2, 1) := by decide +kernel
theorem dL_law__305 : decode cL_law_ 305 = .ok (.iadd, 1) := by decide +kernel
theorem dL_law__306 : decode cL_law_ 306 = .ok (.iaload, 1) := by decide +kernel
theorem dL_law__307 : decode cL_law_ 307 = .ok (.invokevirtual 131, 3) := by decide +kernel
theorem dL_law__310 : decode cL_law_ 310 = .ok (.istore 6, 2) := by decide +kernel
theorem dL_law__312 : decode cL_law_ 312 = .ok (.aload_n 2, 1) := by decide +kernel
theorem dL_law__313 : decode cL_law_ 313 = .ok (.invokevirtual 124, 3) := by decide +kernel
theorem dL_law__316 : decode cL_law_ 316 = .ok (.iload 5, 2) := by decide +kernel
theorem dL_law__318 : decode cL_law_ 318 = .ok (.if_icmp .eq 5, 3) := by decide +kernel
theorem dL_law__321 : decode cL_law_ 321 = .ok (.iconst 0, 1) := by decide +kernel
theorem dL_law__322 : decode cL_law_ 322 = .ok (.ireturn, 1) := by decide +kernel
theorem dL_law__323 : decode cL_law_ 323 = .ok (.iload 5, 2) := by decide +kernel
theorem dL_law__325 : decode cL_law_ 325 = .ok (.ifCond .ne 15, 3) := by decide +kernel
theorem dL_law__328 : decode cL_law_ 328 = .ok (.aload_n 3, 1) := by decide +kernel
theorem dL_law__329 : decode cL_law_ 329 = .ok (.iconst 0, 1) := by decide +kernel
theorem dL_law__330 : decode cL_law_ 330 = .ok (.laload, 1) := by decide +kernel
theorem dL_law__331 : decode cL_law_ 331 = .ok (.iload 6, 2) := by decide +kernel
theorem dL_law__333 : decode cL_law_ 333 = .ok (.i2l, 1) := by decide +kernel
theorem dL_law__334 : decode cL_law_ 334 = .ok (.lcmp, 1) := by decide +kernel
theorem dL_law__335 : decode cL_law_ 335 = .ok (.ifCond .eq 5, 3) := by decide +kernel
theorem dL_law__338 : decode cL_law_ 338 = .ok (.iconst 0, 1) := by decide +kernel
theorem dL_law__339 : decode cL_law_ 339 = .ok (.ireturn, 1) := by decide +kernel
theorem dL_law__340 : decode cL_law_ 340 = .ok (.goto 1970, 3) := by decide +kernel
theorem dL_law__343 : decode cL_law_ 343 = .ok (.aload_n 1, 1) := by decide +kernel
theorem dL_law__344 : decode cL_law_ 344 = .ok (.aload_n 0, 1) := by decide +kernel
theorem dL_law__345 : decode cL_law_ 345 = .ok (.iload 4, 2) := by decide +kernel
theorem dL_law__347 : decode cL_law_ 347 = .ok (.iconst 1, 1) := by decide +kernel
theorem dL_law__348 : decode cL_law_ 348 = .ok (.iadd, 1) := by decide +kernel
theorem dL_law__349 : decode cL_law_ 349 = .ok (.iaload, 1) := by decide +kernel
theorem dL_law__350 : decode cL_law_ 350 = .ok (.aload_n 0, 1) := by decide +kernel
theorem dL_law__351 : decode cL_law_ 351 = .ok (.iload 4, 2) := by decide +kernel
theorem dL_law__353 : decode cL_law_ 353 = .ok (.iconst 2, 1) := by decide +kernel
theorem dL_law__354 : decode cL_law_ 354 = .ok (.iadd, 1) := by decide +kernel
theorem dL_law__355 : decode cL_law_ 355 = .ok (.iaload, 1) := by decide +kernel
theorem dL_law__356 : decode cL_law_ 356 = .ok (.aload_n 0, 1) := by decide +kernel
theorem dL_law__357 : decode cL_law_ 357 = .ok (.iload 4, 2) := by decide +kernel
theorem dL_law__359 : decode cL_law_ 359 = .ok (.iconst 3, 1) := by decide +kernel
theorem dL_law__360 : decode cL_law_ 360 = .ok (.iadd, 1) := by decide +kernel
theorem dL_law__361 : decode cL_law_ 361 = .ok (.iaload, 1) := by decide +kernel
theorem dL_law__362 : decode cL_law_ 362 = .ok (.aload_n 0, 1) := by decide +kernel
theorem dL_law__363 : decode cL_law_ 363 = .ok (.iload 4, 2) := by decide +kernel
theorem dL_law__365 : decode cL_law_ 365 = .ok (.iconst 4, 1) := by decide +kernel
theorem dL_law__366 : decode cL_law_ 366 = .ok (.iadd, 1) := by decide +kernel
theorem dL_law__367 : decode cL_law_ 367 = .ok (.iaload, 1) := by decide +kernel
theorem dL_law__368 : decode cL_law_ 368 = .ok (.invokestatic 132, 3) := by decide +kernel
theorem dL_law__371 : decode cL_law_ 371 = .ok (.istore 5, 2) := by decide +kernel
theorem dL_law__373 : decode cL_law_ 373 = .ok (.aload_n 2, 1) := by decide +kernel
theorem dL_law__374 : decode cL_law_ 374 = .ok (.aload_n 0, 1) := by decide +kernel
theorem dL_law__375 : decode cL_law_ 375 = .ok (.iload 4, 2) := by decide +kernel
theorem dL_law__377 : decode cL_law_ 377 = .ok (.iconst 1, 1) := by decide +kernel
theorem dL_law__378 : decode cL_law_ 378 = .ok (.iadd, 1) := by decide +kernel
theorem dL_law__379 : decode cL_law_ 379 = .ok (.iaload, 1) := by decide +kernel
theorem dL_law__380 : decode cL_law_ 380 = .ok (.aload_n 0, 1) := by decide +kernel
theorem dL_law__381 : decode cL_law_ 381 = .ok (.iload 4, 2) := by decide +kernel
theorem dL_law__383 : decode cL_law_ 383 = .ok (.iconst 2, 1) := by decide +kernel
theorem dL_law__384 : decode cL_law_ 384 = .ok (.iadd, 1) := by decide +kernel
theorem dL_law__385 : decode cL_law_ 385 = .ok (.iaload, 1) := by decide +kernel
theorem dL_law__386 : decode cL_law_ 386 = .ok (.aload_n 0, 1) := by decide +kernel
theorem dL_law__387 : decode cL_law_ 387 = .ok (.iload 4, 2) := by decide +kernel
theorem dL_law__389 : decode cL_law_ 389 = .ok (.iconst 3, 1) := by decide +kernel
