theorem dX11_init_103 : decode cX11_init 103 = .ok (.bipush 40, 2) := by decide +kernel
theorem dX11_init_105 : decode cX11_init 105 = .ok (.newarray .int, 2) := by decide +kernel
theorem dX11_init_107 : decode cX11_init 107 = .ok (.putfield 50, 3) := by decide +kernel
theorem dX11_init_110 : decode cX11_init 110 = .ok (.aload_n 0, 1) := by decide +kernel
theorem dX11_init_111 : decode cX11_init 111 = .ok (.bipush 40, 2) := by decide +kernel
theorem dX11_init_113 : decode cX11_init 113 = .ok (.newarray .int, 2) := by decide +kernel
theorem dX11_init_115 : decode cX11_init 115 = .ok (.putfield 53, 3) := by decide +kernel
theorem dX11_init_118 : decode cX11_init 118 = .ok (.aload_n 0, 1) := by decide +kernel
theorem dX11_init_119 : decode cX11_init 119 = .ok (.bipush 40, 2) := by decide +kernel
theorem dX11_init_121 : decode cX11_init 121 = .ok (.newarray .int, 2) := by decide +kernel
theorem dX11_init_123 : decode cX11_init 123 = .ok (.putfield 56, 3) := by decide +kernel
theorem dX11_init_126 : decode cX11_init 126 = .ok (.aload_n 0, 1) := by decide +kernel
theorem dX11_init_127 : decode cX11_init 127 = .ok (.bipush 40, 2) := by decide +kernel
theorem dX11_init_129 : decode cX11_init 129 = .ok (.newarray .int, 2) := by decide +kernel
theorem dX11_init_131 : decode cX11_init 131 = .ok (.putfield 59, 3) := by decide +kernel
theorem dX11_init_134 : decode cX11_init 134 = .ok (.aload_n 0, 1) := by decide +kernel
theorem dX11_init_135 : decode cX11_init 135 = .ok (.bipush 40, 2) := by decide +kernel
theorem dX11_init_137 : decode cX11_init 137 = .ok (.newarray .int, 2) := by decide +kernel
theorem dX11_init_139 : decode cX11_init 139 = .ok (.putfield 62, 3) := by decide +kernel
theorem dX11_init_142 : decode cX11_init 142 = .ok (.aload_n 0, 1) := by decide +kernel
theorem dX11_init_143 : decode cX11_init 143 = .ok (.bipush 40, 2) := by decide +kernel
theorem dX11_init_145 : decode cX11_init 145 = .ok (.newarray .boolean, 2) := by decide +kernel
theorem dX11_init_147 : decode cX11_init 147 = .ok (.putfield 65, 3) := by decide +kernel
theorem dX11_init_150 : decode cX11_init 150 = .ok (.aload_n 0, 1) := by decide +kernel
theorem dX11_init_151 : decode cX11_init 151 = .ok (.bipush 40, 2) := by decide +kernel
theorem dX11_init_153 : decode cX11_init 153 = .ok (.newarray .int, 2) := by decide +kernel
theorem dX11_init_155 : decode cX11_init 155 = .ok (.putfield 68, 3) := by decide +kernel
theorem dX11_init_158 : decode cX11_init 158 = .ok (.aload_n 0, 1) := by decide +kernel
theorem dX11_init_159 : decode cX11_init 159 = .ok (.bipush 40, 2) := by decide +kernel
theorem dX11_init_161 : decode cX11_init 161 = .ok (.newarray .int, 2) := by decide +kernel
theorem dX11_init_163 : decode cX11_init 163 = .ok (.putfield 71, 3) := by decide +kernel
theorem dX11_init_166 : decode cX11_init 166 = .ok (.aload_n 0, 1) := by decide +kernel
theorem dX11_init_167 : decode cX11_init 167 = .ok (.bipush 40, 2) := by decide +kernel
theorem dX11_init_169 : decode cX11_init 169 = .ok (.newarray .int, 2) := by decide +kernel
theorem dX11_init_171 : decode cX11_init 171 = .ok (.putfield 74, 3) := by decide +kernel
theorem dX11_init_174 : decode cX11_init 174 = .ok (.aload_n 0, 1) := by decide +kernel
theorem dX11_init_175 : decode cX11_init 175 = .ok (.bipush 8, 2) := by decide +kernel
theorem dX11_init_177 : decode cX11_init 177 = .ok (.newarray .int, 2) := by decide +kernel
theorem dX11_init_179 : decode cX11_init 179 = .ok (.putfield 77, 3) := by decide +kernel
theorem dX11_init_182 : decode cX11_init 182 = .ok (.aload_n 0, 1) := by decide +kernel
theorem dX11_init_183 : decode cX11_init 183 = .ok (.bipush 8, 2) := by decide +kernel
theorem dX11_init_185 : decode cX11_init 185 = .ok (.newarray .int, 2) := by decide +kernel
theorem dX11_init_187 : decode cX11_init 187 = .ok (.putfield 80, 3) := by decide +kernel
theorem dX11_init_190 : decode cX11_init 190 = .ok (.aload_n 0, 1) := by decide +kernel
theorem dX11_init_191 : decode cX11_init 191 = .ok (.bipush 8, 2) := by decide +kernel
theorem dX11_init_193 : decode cX11_init 193 = .ok (.newarray .int, 2) := by decide +kernel
theorem dX11_init_195 : decode cX11_init 195 = .ok (.putfield 83, 3) := by decide +kernel
theorem dX11_init_198 : decode cX11_init 198 = .ok (.aload_n 0, 1) := by decide +kernel
theorem dX11_init_199 : decode cX11_init 199 = .ok (.bipush 8, 2) := by decide +kernel
theorem dX11_init_201 : decode cX11_init 201 = .ok (.newarray .int, 2) := by decide +kernel
theorem dX11_init_203 : decode cX11_init 203 = .ok (.putfield 86, 3) := by decide +kernel
theorem dX11_init_206 : decode cX11_init 206 = .ok (.aload_n 0, 1) := by decide +kernel
theorem dX11_init_207 : decode cX11_init 207 = .ok (.bipush 8, 2) := by decide +kernel
theorem dX11_init_209 : decode cX11_init 209 = .ok (.newarray .int, 2) := by decide +kernel
theorem dX11_init_211 : decode cX11_init 211 = .ok (.putfield 89, 3) := by decide +kernel
theorem dX11_init_214 : decode cX11_init 214 = .ok (.aload_n 0, 1) := by decide +kernel
theorem dX11_init_215 : decode cX11_init 215 = .ok (.bipush 80, 2) := by decide +kernel
theorem dX11_init_217 : decode cX11_init 217 = .ok (.newarray .int, 2) := by decide +kernel
theorem dX11_init_219 : decode cX11_init 219 = .ok (.putfield 92, 3) := by decide +kernel
theorem dX11_init_222 : decode cX11_init 222 = .ok (.aload_n 0, 1) := by decide +kernel
theorem dX11_init_223 : decode cX11_init 223 = .ok (.bipush 80, 2) := by decide +kernel
theorem dX11_init_225 : decode cX11_init 225 = .ok (.newarray .int, 2) := by decide +kernel
theorem dX11_init_227 : decode cX11_init 227 = .ok (.putfield 95, 3) := by decide +kernel
theorem dX11_init_230 : decode cX11_init 230 = .ok (.aload_n 0, 1) := by decide +kernel
theorem dX11_init_231 : decode cX11_init 231 = .ok (.bipush 10, 2) := by decide +kernel
theorem dX11_init_233 : decode cX11_init 233 = .ok (.newarray .int, 2) := by decide +kernel
theorem dX11_init_235 : decode cX11_init 235 = .ok (.putfield 98, 3) := by decide +kernel
theorem dX11_init_238 : decode cX11_init 238 = .ok (.aload_n 0, 1) := by decide +kernel
theorem dX11_init_239 : decode cX11_init 239 = .ok (.bipush 10, 2) := by decide +kernel
theorem dX11_init_241 : decode cX11_init 241 = .ok (.newarray .int, 2) := by decide +kernel
theorem dX11_init_243 : decode cX11_init 243 = .ok (.putfield 101, 3) := by decide +kernel
theorem dX11_init_246 : decode cX11_init 246 = .ok (.aload_n 0, 1) := by decide +kernel
theorem dX11_init_247 : decode cX11_init 247 = .ok (.bipush 64, 2) := by decide +kernel
theorem dX11_init_249 : decode cX11_init 249 = .ok (.newarray .int, 2) := by decide +kernel
theorem dX11_init_251 : decode cX11_init 251 = .ok (.putfield 104, 3) := by decide +kernel
theorem dX11_init_254 : decode cX11_init 254 = .ok (.iconst 0, 1) := by decide +kernel
theorem dX11_init_255 : decode cX11_init 255 = .ok (.istore_n 1, 1) := by decide +kernel
theorem dX11_init_256 : decode cX11_init 256 = .ok (.iload_n 1, 1) := by decide +kernel
theorem dX11_init_257 : decode cX11_init 257 = .ok (.iconst 4, 1) := by decide +kernel
theorem dX11_init_258 : decode cX11_init 258 = .ok (.if_icmp .ge 24, 3) := by decide +kernel
theorem dX11_init_261 : decode cX11_init 261 = .ok (.aload_n 0, 1) := by decide +kernel
theorem dX11_init_262 : decode cX11_init 262 = .ok (.getfield 17, 3) := by decide +kernel
theorem dX11_init_265 : decode cX11_init 265 = .ok (.iload_n 1, 1) := by decide +kernel
theorem dX11_init_266 : decode cX11_init 266 = .ok (.bipush 24, 2) := by decide +kernel
theorem dX11_init_268 : decode cX11_init 268 = .ok (.iastore, 1) := by decide +kernel
theorem dX11_init_269 : decode cX11_init 269 = .ok (.aload_n 0, 1) := by decide +kernel
theorem dX11_init_270 : decode cX11_init 270 = .ok (.getfield 20, 3) := by decide +kernel
theorem dX11_init_273 : decode cX11_init 273 = .ok (.iload_n 1, 1) := by decide +kernel
theorem dX11_init_274 : decode cX11_init 274 = .ok (.iconst 2, 1) := by decide +kernel
theorem dX11_init_275 : decode cX11_init 275 = .ok (.iastore, 1) := by decide +kernel
theorem dX11_init_276 : decode cX11_init 276 = .ok (.iinc 1 1, 3) := by decide +kernel
theorem dX11_init_279 : decode cX11_init 279 = .ok (.goto (-23), 3) := by decide +kernel
theorem dX11_init_282 : decode cX11_init 282 = .ok (.return_, 1) := by decide +kernel
theorem dX11_thrown_0 : decode cX11_thrown 0 = .ok (.aload_n 0, 1) := by decide +kernel
theorem dX11_thrown_1 : decode cX11_thrown 1 = .ok (.getfield 107, 3) := by decide +kernel
theorem dX11_thrown_4 : decode cX11_thrown 4 = .ok (.ireturn, 1) := by decide +kernel
theorem dX11_fails_0 : decode cX11_fails 0 = .ok (.aload_n 0, 1) := by decide +kernel
theorem dX11_fails_1 : decode cX11_fails 1 = .ok (.iload_n 1, 1) := by decide +kernel
theorem dX11_fails_2 : decode cX11_fails 2 = .ok (.putfield 107, 3) := by decide +kernel
theorem dX11_fails_5 : decode cX11_fails 5 = .ok (.iload_n 1, 1) := by decide +kernel
theorem dX11_fails_6 : decode cX11_fails 6 = .ok (.ifCond .le 7, 3) := by decide +kernel
theorem dX11_fails_9 : decode cX11_fails 9 = .ok (.iconst 1, 1) := by decide +kernel
theorem dX11_fails_10 : decode cX11_fails 10 = .ok (.goto 4, 3) := by decide +kernel
theorem dX11_fails_13 : decode cX11_fails 13 = .ok (.iconst 0, 1) := by decide +kernel
theorem dX11_fails_14 : decode cX11_fails 14 = .ok (.ireturn, 1) := by decide +kernel
theorem dX11_isIn_0 : decode cX11_isIn 0 = .ok (.iload_n 0, 1) := by decide +kernel
theorem dX11_isIn_1 : decode cX11_isIn 1 = .ok (.iload_n 1, 1) := by decide +kernel
theorem dX11_isIn_2 : decode cX11_isIn 2 = .ok (.if_icmp .lt 12, 3) := by decide +kernel
theorem dX11_isIn_5 : decode cX11_isIn 5 = .ok (.iload_n 0, 1) := by decide +kernel
theorem dX11_isIn_6 : decode cX11_isIn 6 = .ok (.iload_n 2, 1) := by decide +kernel
theorem dX11_isIn_7 : decode cX11_isIn 7 = .ok (.if_icmp .gt 7, 3) := by decide +kernel
theorem dX11_isIn_10 : decode cX11_isIn 10 = .ok (.iconst 1, 1) := by decide +kernel
theorem dX11_isIn_11 : decode cX11_isIn 11 = .ok (.goto 4, 3) := by decide +kernel
theorem dX11_isIn_14 : decode cX11_isIn 14 = .ok (.iconst 0, 1) := by decide +kernel
theorem dX11_isIn_15 : decode cX11_isIn 15 = .ok (.ireturn, 1) := by decide +kernel
theorem dX11_isPlace_0 : decode cX11_isPlace 0 = .ok (.iload_n 0, 1) := by decide +kernel
theorem dX11_isPlace_1 : decode cX11_isPlace 1 = .ok (.iconst 0, 1) := by decide +kernel
theorem dX11_isPlace_2 : decode cX11_isPlace 2 = .ok (.bipush 63, 2) := by decide +kernel
theorem dX11_isPlace_4 : decode cX11_isPlace 4 = .ok (.invokestatic 111, 3) := by decide +kernel
theorem dX11_isPlace_7 : decode cX11_isPlace 7 = .ok (.ireturn, 1) := by decide +kernel
theorem dX11_isZone_0 : decode cX11_isZone 0 = .ok (.iload_n 0, 1) := by decide +kernel
theorem dX11_isZone_1 : decode cX11_isZone 1 = .ok (.iconst 0, 1) := by decide +kernel
theorem dX11_isZone_2 : decode cX11_isZone 2 = .ok (.iconst 3, 1) := by decide +kernel
theorem dX11_isZone_3 : decode cX11_isZone 3 = .ok (.invokestatic 111, 3) := by decide +kernel
theorem dX11_isZone_6 : decode cX11_isZone 6 = .ok (.ireturn, 1) := by decide +kernel
theorem dX11_isVillage_0 : decode cX11_isVillage 0 = .ok (.iload_n 1, 1) := by decide +kernel
theorem dX11_isVillage_1 : decode cX11_isVillage 1 = .ok (.iconst 0, 1) := by decide +kernel
theorem dX11_isVillage_2 : decode cX11_isVillage 2 = .ok (.aload_n 0, 1) := by decide +kernel
theorem dX11_isVillage_3 : decode cX11_isVillage 3 = .ok (.getfield 115, 3) := by decide +kernel
theorem dX11_isVillage_6 : decode cX11_isVillage 6 = .ok (.iconst 1, 1) := by decide +kernel
theorem dX11_isVillage_7 : decode cX11_isVillage 7 = .ok (.isub, 1) := by decide +kernel
theorem dX11_isVillage_8 : decode cX11_isVillage 8 = .ok (.invokestatic 111, 3) := by decide +kernel
theorem dX11_isVillage_11 : decode cX11_isVillage 11 = .ok (.ireturn, 1) := by decide +kernel
theorem dX11_isLamp_0 : decode cX11_isLamp 0 = .ok (.iload_n 1, 1) := by decide +kernel
theorem dX11_isLamp_1 : decode cX11_isLamp 1 = .ok (.iconst 0, 1) := by decide +kernel
theorem dX11_isLamp_2 : decode cX11_isLamp 2 = .ok (.aload_n 0, 1) := by decide +kernel
theorem dX11_isLamp_3 : decode cX11_isLamp 3 = .ok (.getfield 118, 3) := by decide +kernel
theorem dX11_isLamp_6 : decode cX11_isLamp 6 = .ok (.iconst 1, 1) := by decide +kernel
theorem dX11_isLamp_7 : decode cX11_isLamp 7 = .ok (.isub, 1) := by decide +kernel
theorem dX11_isLamp_8 : decode cX11_isLamp 8 = .ok (.invokestatic 111, 3) := by decide +kernel
theorem dX11_isLamp_11 : decode cX11_isLamp 11 = .ok (.ireturn, 1) := by decide +kernel
theorem dX11_isMeter_0 : decode cX11_isMeter 0 = .ok (.iload_n 1, 1) := by decide +kernel
theorem dX11_isMeter_1 : decode cX11_isMeter 1 = .ok (.iconst 0, 1) := by decide +kernel
theorem dX11_isMeter_2 : decode cX11_isMeter 2 = .ok (.aload_n 0, 1) := by decide +kernel
theorem dX11_isMeter_3 : decode cX11_isMeter 3 = .ok (.getfield 121, 3) := by decide +kernel
theorem dX11_isMeter_6 : decode cX11_isMeter 6 = .ok (.iconst 1, 1) := by decide +kernel
theorem dX11_isMeter_7 : decode cX11_isMeter 7 = .ok (.isub, 1) := by decide +kernel
theorem dX11_isMeter_8 : decode cX11_isMeter 8 = .ok (.invokestatic 111, 3) := by decide +kernel
theorem dX11_isMeter_11 : decode cX11_isMeter 11 = .ok (.ireturn, 1) := by decide +kernel
theorem dX11_size_0 : decode cX11_size 0 = .ok (.iload_n 0, 1) := by decide +kernel
theorem dX11_size_1 : decode cX11_size 1 = .ok (.ifCond .ge 8, 3) := by decide +kernel
theorem dX11_size_4 : decode cX11_size 4 = .ok (.iload_n 0, 1) := by decide +kernel
theorem dX11_size_5 : decode cX11_size 5 = .ok (.ineg, 1) := by decide +kernel
theorem dX11_size_6 : decode cX11_size 6 = .ok (.goto 4, 3) := by decide +kernel
theorem dX11_size_9 : decode cX11_size 9 = .ok (.iload_n 0, 1) := by decide +kernel
theorem dX11_size_10 : decode cX11_size 10 = .ok (.ireturn, 1) := by decide +kernel
theorem dX11_ridge_0 : decode cX11_ridge 0 = .ok (.aload_n 0, 1) := by decide +kernel
theorem dX11_ridge_1 : decode cX11_ridge 1 = .ok (.iload_n 1, 1) := by decide +kernel
theorem dX11_ridge_2 : decode cX11_ridge 2 = .ok (.invokestatic 124, 3) := by decide +kernel
theorem dX11_ridge_5 : decode cX11_ridge 5 = .ok (.ifCond .eq 7, 3) := by decide +kernel
theorem dX11_ridge_8 : decode cX11_ridge 8 = .ok (.iconst 0, 1) := by decide +kernel
theorem dX11_ridge_9 : decode cX11_ridge 9 = .ok (.goto 4, 3) := by decide +kernel
theorem dX11_ridge_12 : decode cX11_ridge 12 = .ok (.iconst 1, 1) := by decide +kernel
theorem dX11_ridge_13 : decode cX11_ridge 13 = .ok (.invokevirtual 128, 3) := by decide +kernel
theorem dX11_ridge_16 : decode cX11_ridge 16 = .ok (.ifCond .eq 5, 3) := by decide +kernel
theorem dX11_ridge_19 : decode cX11_ridge 19 = .ok (.iconst 0, 1) := by decide +kernel
theorem dX11_ridge_20 : decode cX11_ridge 20 = .ok (.ireturn, 1) := by decide +kernel
theorem dX11_ridge_21 : decode cX11_ridge 21 = .ok (.aload_n 0, 1) := by decide +kernel
theorem dX11_ridge_22 : decode cX11_ridge 22 = .ok (.getfield 7, 3) := by decide +kernel
theorem dX11_ridge_25 : decode cX11_ridge 25 = .ok (.iload_n 1, 1) := by decide +kernel
theorem dX11_ridge_26 : decode cX11_ridge 26 = .ok (.baload, 1) := by decide +kernel
theorem dX11_ridge_27 : decode cX11_ridge 27 = .ok (.istore_n 3, 1) := by decide +kernel
theorem dX11_ridge_28 : decode cX11_ridge 28 = .ok (.aload_n 0, 1) := by decide +kernel
theorem dX11_ridge_29 : decode cX11_ridge 29 = .ok (.getfield 7, 3) := by decide +kernel
theorem dX11_ridge_32 : decode cX11_ridge 32 = .ok (.iload_n 1, 1) := by decide +kernel
theorem dX11_ridge_33 : decode cX11_ridge 33 = .ok (.iload_n 2, 1) := by decide +kernel
theorem dX11_ridge_34 : decode cX11_ridge 34 = .ok (.bastore, 1) := by decide +kernel
theorem dX11_ridge_35 : decode cX11_ridge 35 = .ok (.iload_n 3, 1) := by decide +kernel
theorem dX11_ridge_36 : decode cX11_ridge 36 = .ok (.ireturn, 1) := by decide +kernel
theorem dX11_zone_0 : decode cX11_zone 0 = .ok (.aload_n 0, 1) := by decide +kernel
theorem dX11_zone_1 : decode cX11_zone 1 = .ok (.iload_n 1, 1) := by decide +kernel
theorem dX11_zone_2 : decode cX11_zone 2 = .ok (.invokestatic 124, 3) := by decide +kernel
theorem dX11_zone_5 : decode cX11_zone 5 = .ok (.ifCond .eq 14, 3) := by decide +kernel
theorem dX11_zone_8 : decode cX11_zone 8 = .ok (.iload_n 2, 1) := by decide +kernel
theorem dX11_zone_9 : decode cX11_zone 9 = .ok (.invokestatic 131, 3) := by decide +kernel
theorem dX11_zone_12 : decode cX11_zone 12 = .ok (.ifCond .eq 7, 3) := by decide +kernel
theorem dX11_zone_15 : decode cX11_zone 15 = .ok (.iconst 0, 1) := by decide +kernel
theorem dX11_zone_16 : decode cX11_zone 16 = .ok (.goto 4, 3) := by decide +kernel
theorem dX11_zone_19 : decode cX11_zone 19 = .ok (.iconst 1, 1) := by decide +kernel
theorem dX11_zone_20 : decode cX11_zone 20 = .ok (.invokevirtual 128, 3) := by decide +kernel
theorem dX11_zone_23 : decode cX11_zone 23 = .ok (.ifCond .eq 5, 3) := by decide +kernel
theorem dX11_zone_26 : decode cX11_zone 26 = .ok (.iconst 0, 1) := by decide +kernel
theorem dX11_zone_27 : decode cX11_zone 27 = .ok (.ireturn, 1) := by decide +kernel
theorem dX11_zone_28 : decode cX11_zone 28 = .ok (.aload_n 0, 1) := by decide +kernel
theorem dX11_zone_29 : decode cX11_zone 29 = .ok (.getfield 13, 3) := by decide +kernel
theorem dX11_zone_32 : decode cX11_zone 32 = .ok (.iload_n 1, 1) := by decide +kernel
theorem dX11_zone_33 : decode cX11_zone 33 = .ok (.iaload, 1) := by decide +kernel
theorem dX11_zone_34 : decode cX11_zone 34 = .ok (.istore_n 3, 1) := by decide +kernel
theorem dX11_zone_35 : decode cX11_zone 35 = .ok (.aload_n 0, 1) := by decide +kernel
theorem dX11_zone_36 : decode cX11_zone 36 = .ok (.getfield 13, 3) := by decide +kernel
theorem dX11_zone_39 : decode cX11_zone 39 = .ok (.iload_n 1, 1) := by decide +kernel
theorem dX11_zone_40 : decode cX11_zone 40 = .ok (.iload_n 2, 1) := by decide +kernel
theorem dX11_zone_41 : decode cX11_zone 41 = .ok (.iastore, 1) := by decide +kernel
theorem dX11_zone_42 : decode cX11_zone 42 = .ok (.iload_n 3, 1) := by decide +kernel
theorem dX11_zone_43 : decode cX11_zone 43 = .ok (.ireturn, 1) := by decide +kernel
theorem dX11_law_0 : decode cX11_law 0 = .ok (.iload_n 2, 1) := by decide +kernel
theorem dX11_law_1 : decode cX11_law 1 = .ok (.bipush 18, 2) := by decide +kernel
theorem dX11_law_3 : decode cX11_law 3 = .ok (.bipush 24, 2) := by decide +kernel
theorem dX11_law_5 : decode cX11_law 5 = .ok (.invokestatic 111, 3) := by decide +kernel
theorem dX11_law_8 : decode cX11_law 8 = .ok (.ifCond .eq 27, 3) := by decide +kernel
theorem dX11_law_11 : decode cX11_law 11 = .ok (.iload_n 3, 1) := by decide +kernel
theorem dX11_law_12 : decode cX11_law 12 = .ok (.iconst 0, 1) := by decide +kernel
theorem dX11_law_13 : decode cX11_law 13 = .ok (.iconst 2, 1) := by decide +kernel
theorem dX11_law_14 : decode cX11_law 14 = .ok (.invokestatic 111, 3) := by decide +kernel
theorem dX11_law_17 : decode cX11_law 17 = .ok (.ifCond .eq 18, 3) := by decide +kernel
theorem dX11_law_20 : decode cX11_law 20 = .ok (.iload 4, 2) := by decide +kernel
theorem dX11_law_22 : decode cX11_law 22 = .ok (.iconst 0, 1) := by decide +kernel
theorem dX11_law_23 : decode cX11_law 23 = .ok (.bipush 10, 2) := by decide +kernel
theorem dX11_law_25 : decode cX11_law 25 = .ok (.invokestatic 111, 3) := by decide +kernel
theorem dX11_law_28 : decode cX11_law 28 = .ok (.ifCond .eq 7, 3) := by decide +kernel
theorem dX11_law_31 : decode cX11_law 31 = .ok (.iconst 1, 1) := by decide +kernel
theorem dX11_law_32 : decode cX11_law 32 = .ok (.goto 4, 3) := by decide +kernel
theorem dX11_law_35 : decode cX11_law 35 = .ok (.iconst 0, 1) := by decide +kernel
theorem dX11_law_36 : decode cX11_law 36 = .ok (.istore 5, 2) := by decide +kernel
theorem dX11_law_38 : decode cX11_law 38 = .ok (.aload_n 0, 1) := by decide +kernel
theorem dX11_law_39 : decode cX11_law 39 = .ok (.iload_n 1, 1) := by decide +kernel
theorem dX11_law_40 : decode cX11_law 40 = .ok (.invokestatic 131, 3) := by decide +kernel
theorem dX11_law_43 : decode cX11_law 43 = .ok (.ifCond .ne 7, 3) := by decide +kernel
theorem dX11_law_46 : decode cX11_law 46 = .ok (.iconst 1, 1) := by decide +kernel
theorem dX11_law_47 : decode cX11_law 47 = .ok (.goto 13, 3) := by decide +kernel
theorem dX11_law_50 : decode cX11_law 50 = .ok (.iload 5, 2) := by decide +kernel
theorem dX11_law_52 : decode cX11_law 52 = .ok (.ifCond .eq 7, 3) := by decide +kernel
theorem dX11_law_55 : decode cX11_law 55 = .ok (.iconst 0, 1) := by decide +kernel
theorem dX11_law_56 : decode cX11_law 56 = .ok (.goto 4, 3) := by decide +kernel
theorem dX11_law_59 : decode cX11_law 59 = .ok (.iconst 2, 1) := by decide +kernel
theorem dX11_law_60 : decode cX11_law 60 = .ok (.invokevirtual 128, 3) := by decide +kernel
theorem dX11_law_63 : decode cX11_law 63 = .ok (.ifCond .ne 25, 3) := by decide +kernel
theorem dX11_law_66 : decode cX11_law 66 = .ok (.aload_n 0, 1) := by decide +kernel
theorem dX11_law_67 : decode cX11_law 67 = .ok (.getfield 17, 3) := by decide +kernel
theorem dX11_law_70 : decode cX11_law 70 = .ok (.iload_n 1, 1) := by decide +kernel
theorem dX11_law_71 : decode cX11_law 71 = .ok (.iload_n 2, 1) := by decide +kernel
theorem dX11_law_72 : decode cX11_law 72 = .ok (.iastore, 1) := by decide +kernel
theorem dX11_law_73 : decode cX11_law 73 = .ok (.aload_n 0, 1) := by decide +kernel
theorem dX11_law_74 : decode cX11_law 74 = .ok (.getfield 20, 3) := by decide +kernel
theorem dX11_law_77 : decode cX11_law 77 = .ok (.iload_n 1, 1) := by decide +kernel
theorem dX11_law_78 : decode cX11_law 78 = .ok (.iload_n 3, 1) := by decide +kernel
theorem dX11_law_79 : decode cX11_law 79 = .ok (.iastore, 1) := by decide +kernel
theorem dX11_law_80 : decode cX11_law 80 = .ok (.aload_n 0, 1) := by decide +kernel
theorem dX11_law_81 : decode cX11_law 81 = .ok (.getfield 23, 3) := by decide +kernel
theorem dX11_law_84 : decode cX11_law 84 = .ok (.iload_n 1, 1) := by decide +kernel
theorem dX11_law_85 : decode cX11_law 85 = .ok (.iload 4, 2) := by decide +kernel
theorem dX11_law_87 : decode cX11_law 87 = .ok (.iastore, 1) := by decide +kernel
theorem dX11_law_88 : decode cX11_law 88 = .ok (.return_, 1) := by decide +kernel
theorem dX11_feast_0 : decode cX11_feast 0 = .ok (.aload_n 0, 1) := by decide +kernel
theorem dX11_feast_1 : decode cX11_feast 1 = .ok (.iload_n 1, 1) := by decide +kernel
theorem dX11_feast_2 : decode cX11_feast 2 = .ok (.invokestatic 131, 3) := by decide +kernel
theorem dX11_feast_5 : decode cX11_feast 5 = .ok (.ifCond .ne 7, 3) := by decide +kernel
theorem dX11_feast_8 : decode cX11_feast 8 = .ok (.iconst 1, 1) := by decide +kernel
theorem dX11_feast_9 : decode cX11_feast 9 = .ok (.goto 19, 3) := by decide +kernel
theorem dX11_feast_12 : decode cX11_feast 12 = .ok (.iload_n 2, 1) := by decide +kernel
theorem dX11_feast_13 : decode cX11_feast 13 = .ok (.iconst 0, 1) := by decide +kernel
theorem dX11_feast_14 : decode cX11_feast 14 = .ok (.sipush 999, 3) := by decide +kernel
theorem dX11_feast_17 : decode cX11_feast 17 = .ok (.invokestatic 111, 3) := by decide +kernel
theorem dX11_feast_20 : decode cX11_feast 20 = .ok (.ifCond .eq 7, 3) := by decide +kernel
theorem dX11_feast_23 : decode cX11_feast 23 = .ok (.iconst 0, 1) := by decide +kernel
theorem dX11_feast_24 : decode cX11_feast 24 = .ok (.goto 4, 3) := by decide +kernel
theorem dX11_feast_27 : decode cX11_feast 27 = .ok (.iconst 2, 1) := by decide +kernel
theorem dX11_feast_28 : decode cX11_feast 28 = .ok (.invokevirtual 128, 3) := by decide +kernel
theorem dX11_feast_31 : decode cX11_feast 31 = .ok (.ifCond .eq 5, 3) := by decide +kernel
theorem dX11_feast_34 : decode cX11_feast 34 = .ok (.iconst 0, 1) := by decide +kernel
theorem dX11_feast_35 : decode cX11_feast 35 = .ok (.ireturn, 1) := by decide +kernel
theorem dX11_feast_36 : decode cX11_feast 36 = .ok (.aload_n 0, 1) := by decide +kernel
theorem dX11_feast_37 : decode cX11_feast 37 = .ok (.getfield 26, 3) := by decide +kernel
theorem dX11_feast_40 : decode cX11_feast 40 = .ok (.sipush 1000, 3) := by decide +kernel
theorem dX11_feast_43 : decode cX11_feast 43 = .ok (.iload_n 1, 1) := by decide +kernel
theorem dX11_feast_44 : decode cX11_feast 44 = .ok (.imul, 1) := by decide +kernel
theorem dX11_feast_45 : decode cX11_feast 45 = .ok (.iload_n 2, 1) := by decide +kernel
theorem dX11_feast_46 : decode cX11_feast 46 = .ok (.iadd, 1) := by decide +kernel
theorem dX11_feast_47 : decode cX11_feast 47 = .ok (.iconst 1, 1) := by decide +kernel
theorem dX11_feast_48 : decode cX11_feast 48 = .ok (.bastore, 1) := by decide +kernel
theorem dX11_feast_49 : decode cX11_feast 49 = .ok (.iconst 0, 1) := by decide +kernel
theorem dX11_feast_50 : decode cX11_feast 50 = .ok (.istore_n 3, 1) := by decide +kernel
theorem dX11_feast_51 : decode cX11_feast 51 = .ok (.sipush 1000, 3) := by decide +kernel
theorem dX11_feast_54 : decode cX11_feast 54 = .ok (.iload_n 1, 1) := by decide +kernel
theorem dX11_feast_55 : decode cX11_feast 55 = .ok (.imul, 1) := by decide +kernel
theorem dX11_feast_56 : decode cX11_feast 56 = .ok (.istore 4, 2) := by decide +kernel
theorem dX11_feast_58 : decode cX11_feast 58 = .ok (.iload 4, 2) := by decide +kernel
theorem dX11_feast_60 : decode cX11_feast 60 = .ok (.sipush 1000, 3) := by decide +kernel
theorem dX11_feast_63 : decode cX11_feast 63 = .ok (.iload_n 1, 1) := by decide +kernel
theorem dX11_feast_64 : decode cX11_feast 64 = .ok (.imul, 1) := by decide +kernel
theorem dX11_feast_65 : decode cX11_feast 65 = .ok (.sipush 1000, 3) := by decide +kernel
theorem dX11_feast_68 : decode cX11_feast 68 = .ok (.iadd, 1) := by decide +kernel
theorem dX11_feast_69 : decode cX11_feast 69 = .ok (.if_icmp .ge 27, 3) := by decide +kernel
theorem dX11_feast_72 : decode cX11_feast 72 = .ok (.iload_n 3, 1) := by decide +kernel
theorem dX11_feast_73 : decode cX11_feast 73 = .ok (.aload_n 0, 1) := by decide +kernel
theorem dX11_feast_74 : decode cX11_feast 74 = .ok (.getfield 26, 3) := by decide +kernel
theorem dX11_feast_77 : decode cX11_feast 77 = .ok (.iload 4, 2) := by decide +kernel
theorem dX11_feast_79 : decode cX11_feast 79 = .ok (.baload, 1) := by decide +kernel
theorem dX11_feast_80 : decode cX11_feast 80 = .ok (.ifCond .eq 7, 3) := by decide +kernel
theorem dX11_feast_83 : decode cX11_feast 83 = .ok (.iconst 1, 1) := by decide +kernel
theorem dX11_feast_84 : decode cX11_feast 84 = .ok (.goto 4, 3) := by decide +kernel
theorem dX11_feast_87 : decode cX11_feast 87 = .ok (.iconst 0, 1) := by decide +kernel
theorem dX11_feast_88 : decode cX11_feast 88 = .ok (.iadd, 1) := by decide +kernel
theorem dX11_feast_89 : decode cX11_feast 89 = .ok (.istore_n 3, 1) := by decide +kernel
theorem dX11_feast_90 : decode cX11_feast 90 = .ok (.iinc 4 1, 3) := by decide +kernel
theorem dX11_feast_93 : decode cX11_feast 93 = .ok (.goto (-35), 3) := by decide +kernel
theorem dX11_feast_96 : decode cX11_feast 96 = .ok (.iload_n 3, 1) := by decide +kernel
theorem dX11_feast_97 : decode cX11_feast 97 = .ok (.ireturn, 1) := by decide +kernel
theorem dX11_air_0 : decode cX11_air 0 = .ok (.aload_n 0, 1) := by decide +kernel
theorem dX11_air_1 : decode cX11_air 1 = .ok (.iload_n 1, 1) := by decide +kernel
theorem dX11_air_2 : decode cX11_air 2 = .ok (.iconst 0, 1) := by decide +kernel
theorem dX11_air_3 : decode cX11_air 3 = .ok (.iconst 2, 1) := by decide +kernel
theorem dX11_air_4 : decode cX11_air 4 = .ok (.invokestatic 111, 3) := by decide +kernel
theorem dX11_air_7 : decode cX11_air 7 = .ok (.ifCond .eq 7, 3) := by decide +kernel
theorem dX11_air_10 : decode cX11_air 10 = .ok (.iconst 0, 1) := by decide +kernel
theorem dX11_air_11 : decode cX11_air 11 = .ok (.goto 4, 3) := by decide +kernel
theorem dX11_air_14 : decode cX11_air 14 = .ok (.iconst 1, 1) := by decide +kernel
theorem dX11_air_15 : decode cX11_air 15 = .ok (.invokevirtual 128, 3) := by decide +kernel
theorem dX11_air_18 : decode cX11_air 18 = .ok (.ifCond .eq 5, 3) := by decide +kernel
theorem dX11_air_21 : decode cX11_air 21 = .ok (.iconst 0, 1) := by decide +kernel
theorem dX11_air_22 : decode cX11_air 22 = .ok (.ireturn, 1) := by decide +kernel
theorem dX11_air_23 : decode cX11_air 23 = .ok (.aload_n 0, 1) := by decide +kernel
theorem dX11_air_24 : decode cX11_air 24 = .ok (.getfield 134, 3) := by decide +kernel
theorem dX11_air_27 : decode cX11_air 27 = .ok (.istore_n 2, 1) := by decide +kernel
theorem dX11_air_28 : decode cX11_air 28 = .ok (.aload_n 0, 1) := by decide +kernel
theorem dX11_air_29 : decode cX11_air 29 = .ok (.iload_n 1, 1) := by decide +kernel
theorem dX11_air_30 : decode cX11_air 30 = .ok (.putfield 134, 3) := by decide +kernel
theorem dX11_air_33 : decode cX11_air 33 = .ok (.iload_n 2, 1) := by decide +kernel
theorem dX11_air_34 : decode cX11_air 34 = .ok (.ireturn, 1) := by decide +kernel
theorem dX11_burns_0 : decode cX11_burns 0 = .ok (.aload_n 0, 1) := by decide +kernel
theorem dX11_burns_1 : decode cX11_burns 1 = .ok (.getfield 137, 3) := by decide +kernel
theorem dX11_burns_4 : decode cX11_burns 4 = .ok (.bipush 24, 2) := by decide +kernel
theorem dX11_burns_6 : decode cX11_burns 6 = .ok (.irem, 1) := by decide +kernel
theorem dX11_burns_7 : decode cX11_burns 7 = .ok (.istore_n 2, 1) := by decide +kernel
theorem dX11_burns_8 : decode cX11_burns 8 = .ok (.aload_n 0, 1) := by decide +kernel
theorem dX11_burns_9 : decode cX11_burns 9 = .ok (.getfield 59, 3) := by decide +kernel
theorem dX11_burns_12 : decode cX11_burns 12 = .ok (.iload_n 1, 1) := by decide +kernel
theorem dX11_burns_13 : decode cX11_burns 13 = .ok (.iaload, 1) := by decide +kernel
theorem dX11_burns_14 : decode cX11_burns 14 = .ok (.aload_n 0, 1) := by decide +kernel
theorem dX11_burns_15 : decode cX11_burns 15 = .ok (.getfield 62, 3) := by decide +kernel
theorem dX11_burns_18 : decode cX11_burns 18 = .ok (.iload_n 1, 1) := by decide +kernel
theorem dX11_burns_19 : decode cX11_burns 19 = .ok (.iaload, 1) := by decide +kernel
theorem dX11_burns_20 : decode cX11_burns 20 = .ok (.if_icmp .eq 61, 3) := by decide +kernel
theorem dX11_burns_23 : decode cX11_burns 23 = .ok (.aload_n 0, 1) := by decide +kernel
theorem dX11_burns_24 : decode cX11_burns 24 = .ok (.getfield 59, 3) := by decide +kernel
theorem dX11_burns_27 : decode cX11_burns 27 = .ok (.iload_n 1, 1) := by decide +kernel
theorem dX11_burns_28 : decode cX11_burns 28 = .ok (.iaload, 1) := by decide +kernel
theorem dX11_burns_29 : decode cX11_burns 29 = .ok (.aload_n 0, 1) := by decide +kernel
theorem dX11_burns_30 : decode cX11_burns 30 = .ok (.getfield 62, 3) := by decide +kernel
theorem dX11_burns_33 : decode cX11_burns 33 = .ok (.iload_n 1, 1) := by decide +kernel
theorem dX11_burns_34 : decode cX11_burns 34 = .ok (.iaload, 1) := by decide +kernel
theorem dX11_burns_35 : decode cX11_burns 35 = .ok (.if_icmp .ge 26, 3) := by decide +kernel
theorem dX11_burns_38 : decode cX11_burns 38 = .ok (.iload_n 2, 1) := by decide +kernel
theorem dX11_burns_39 : decode cX11_burns 39 = .ok (.aload_n 0, 1) := by decide +kernel
theorem dX11_burns_40 : decode cX11_burns 40 = .ok (.getfield 59, 3) := by decide +kernel
theorem dX11_burns_43 : decode cX11_burns 43 = .ok (.iload_n 1, 1) := by decide +kernel
theorem dX11_burns_44 : decode cX11_burns 44 = .ok (.iaload, 1) := by decide +kernel
theorem dX11_burns_45 : decode cX11_burns 45 = .ok (.if_icmp .lt 40, 3) := by decide +kernel
theorem dX11_burns_48 : decode cX11_burns 48 = .ok (.iload_n 2, 1) := by decide +kernel
theorem dX11_burns_49 : decode cX11_burns 49 = .ok (.aload_n 0, 1) := by decide +kernel
theorem dX11_burns_50 : decode cX11_burns 50 = .ok (.getfield 62, 3) := by decide +kernel
theorem dX11_burns_53 : decode cX11_burns 53 = .ok (.iload_n 1, 1) := by decide +kernel
theorem dX11_burns_54 : decode cX11_burns 54 = .ok (.iaload, 1) := by decide +kernel
theorem dX11_burns_55 : decode cX11_burns 55 = .ok (.if_icmp .ge 30, 3) := by decide +kernel
theorem dX11_burns_58 : decode cX11_burns 58 = .ok (.goto 23, 3) := by decide +kernel
theorem dX11_burns_61 : decode cX11_burns 61 = .ok (.iload_n 2, 1) := by decide +kernel
theorem dX11_burns_62 : decode cX11_burns 62 = .ok (.aload_n 0, 1) := by decide +kernel
theorem dX11_burns_63 : decode cX11_burns 63 = .ok (.getfield 59, 3) := by decide +kernel
theorem dX11_burns_66 : decode cX11_burns 66 = .ok (.iload_n 1, 1) := by decide +kernel
theorem dX11_burns_67 : decode cX11_burns 67 = .ok (.iaload, 1) := by decide +kernel
theorem dX11_burns_68 : decode cX11_burns 68 = .ok (.if_icmp .ge 13, 3) := by decide +kernel
theorem dX11_burns_71 : decode cX11_burns 71 = .ok (.iload_n 2, 1) := by decide +kernel
theorem dX11_burns_72 : decode cX11_burns 72 = .ok (.aload_n 0, 1) := by decide +kernel
theorem dX11_burns_73 : decode cX11_burns 73 = .ok (.getfield 62, 3) := by decide +kernel
theorem dX11_burns_76 : decode cX11_burns 76 = .ok (.iload_n 1, 1) := by decide +kernel
theorem dX11_burns_77 : decode cX11_burns 77 = .ok (.iaload, 1) := by decide +kernel
theorem dX11_burns_78 : decode cX11_burns 78 = .ok (.if_icmp .ge 7, 3) := by decide +kernel
theorem dX11_burns_81 : decode cX11_burns 81 = .ok (.iconst 1, 1) := by decide +kernel
theorem dX11_burns_82 : decode cX11_burns 82 = .ok (.goto 4, 3) := by decide +kernel
theorem dX11_burns_85 : decode cX11_burns 85 = .ok (.iconst 0, 1) := by decide +kernel
theorem dX11_burns_86 : decode cX11_burns 86 = .ok (.istore_n 3, 1) := by decide +kernel
theorem dX11_burns_87 : decode cX11_burns 87 = .ok (.aload_n 0, 1) := by decide +kernel
theorem dX11_burns_88 : decode cX11_burns 88 = .ok (.getfield 13, 3) := by decide +kernel
theorem dX11_burns_91 : decode cX11_burns 91 = .ok (.aload_n 0, 1) := by decide +kernel
theorem dX11_burns_92 : decode cX11_burns 92 = .ok (.getfield 44, 3) := by decide +kernel
theorem dX11_burns_95 : decode cX11_burns 95 = .ok (.iload_n 1, 1) := by decide +kernel
theorem dX11_burns_96 : decode cX11_burns 96 = .ok (.iaload, 1) := by decide +kernel
theorem dX11_burns_97 : decode cX11_burns 97 = .ok (.iaload, 1) := by decide +kernel
theorem dX11_burns_98 : decode cX11_burns 98 = .ok (.istore 4, 2) := by decide +kernel
theorem dX11_burns_100 : decode cX11_burns 100 = .ok (.aload_n 0, 1) := by decide +kernel
theorem dX11_burns_101 : decode cX11_burns 101 = .ok (.getfield 17, 3) := by decide +kernel
theorem dX11_burns_104 : decode cX11_burns 104 = .ok (.iload 4, 2) := by decide +kernel
theorem dX11_burns_106 : decode cX11_burns 106 = .ok (.iaload, 1) := by decide +kernel
theorem dX11_burns_107 : decode cX11_burns 107 = .ok (.bipush 24, 2) := by decide +kernel
theorem dX11_burns_109 : decode cX11_burns 109 = .ok (.if_icmp .eq 24, 3) := by decide +kernel
theorem dX11_burns_112 : decode cX11_burns 112 = .ok (.iload_n 2, 1) := by decide +kernel
theorem dX11_burns_113 : decode cX11_burns 113 = .ok (.aload_n 0, 1) := by decide +kernel
theorem dX11_burns_114 : decode cX11_burns 114 = .ok (.getfield 17, 3) := by decide +kernel
theorem dX11_burns_117 : decode cX11_burns 117 = .ok (.iload 4, 2) := by decide +kernel
theorem dX11_burns_119 : decode cX11_burns 119 = .ok (.iaload, 1) := by decide +kernel
theorem dX11_burns_120 : decode cX11_burns 120 = .ok (.if_icmp .ge 9, 3) := by decide +kernel
theorem dX11_burns_123 : decode cX11_burns 123 = .ok (.iload_n 2, 1) := by decide +kernel
theorem dX11_burns_124 : decode cX11_burns 124 = .ok (.bipush 6, 2) := by decide +kernel
theorem dX11_burns_126 : decode cX11_burns 126 = .ok (.if_icmp .ge 7, 3) := by decide +kernel
theorem dX11_burns_129 : decode cX11_burns 129 = .ok (.iconst 1, 1) := by decide +kernel
theorem dX11_burns_130 : decode cX11_burns 130 = .ok (.goto 4, 3) := by decide +kernel
theorem dX11_burns_133 : decode cX11_burns 133 = .ok (.iconst 0, 1) := by decide +kernel
theorem dX11_burns_134 : decode cX11_burns 134 = .ok (.istore 5, 2) := by decide +kernel
theorem dX11_burns_136 : decode cX11_burns 136 = .ok (.aload_n 0, 1) := by decide +kernel
theorem dX11_burns_137 : decode cX11_burns 137 = .ok (.getfield 65, 3) := by decide +kernel
theorem dX11_burns_140 : decode cX11_burns 140 = .ok (.iload_n 1, 1) := by decide +kernel
theorem dX11_burns_141 : decode cX11_burns 141 = .ok (.baload, 1) := by decide +kernel
theorem dX11_burns_142 : decode cX11_burns 142 = .ok (.ifCond .ne 38, 3) := by decide +kernel
theorem dX11_burns_145 : decode cX11_burns 145 = .ok (.aload_n 0, 1) := by decide +kernel
theorem dX11_burns_146 : decode cX11_burns 146 = .ok (.getfield 137, 3) := by decide +kernel
theorem dX11_burns_149 : decode cX11_burns 149 = .ok (.bipush 24, 2) := by decide +kernel
theorem dX11_burns_151 : decode cX11_burns 151 = .ok (.idiv, 1) := by decide +kernel
theorem dX11_burns_152 : decode cX11_burns 152 = .ok (.sipush 1000, 3) := by decide +kernel
theorem dX11_burns_155 : decode cX11_burns 155 = .ok (.if_icmp .ge 29, 3) := by decide +kernel
theorem dX11_burns_158 : decode cX11_burns 158 = .ok (.aload_n 0, 1) := by decide +kernel
theorem dX11_burns_159 : decode cX11_burns 159 = .ok (.getfield 26, 3) := by decide +kernel
theorem dX11_burns_162 : decode cX11_burns 162 = .ok (.sipush 1000, 3) := by decide +kernel
theorem dX11_burns_165 : decode cX11_burns 165 = .ok (.iload 4, 2) := by decide +kernel
theorem dX11_burns_167 : decode cX11_burns 167 = .ok (.imul, 1) := by decide +kernel
theorem dX11_burns_168 : decode cX11_burns 168 = .ok (.aload_n 0, 1) := by decide +kernel
theorem dX11_burns_169 : decode cX11_burns 169 = .ok (.getfield 137, 3) := by decide +kernel
theorem dX11_burns_172 : decode cX11_burns 172 = .ok (.bipush 24, 2) := by decide +kernel
theorem dX11_burns_174 : decode cX11_burns 174 = .ok (.idiv, 1) := by decide +kernel
theorem dX11_burns_175 : decode cX11_burns 175 = .ok (.iadd, 1) := by decide +kernel
theorem dX11_burns_176 : decode cX11_burns 176 = .ok (.baload, 1) := by decide +kernel
theorem dX11_burns_177 : decode cX11_burns 177 = .ok (.ifCond .eq 7, 3) := by decide +kernel
theorem dX11_burns_180 : decode cX11_burns 180 = .ok (.iconst 1, 1) := by decide +kernel
theorem dX11_burns_181 : decode cX11_burns 181 = .ok (.goto 4, 3) := by decide +kernel
theorem dX11_burns_184 : decode cX11_burns 184 = .ok (.iconst 0, 1) := by decide +kernel
theorem dX11_burns_185 : decode cX11_burns 185 = .ok (.istore 6, 2) := by decide +kernel
theorem dX11_burns_187 : decode cX11_burns 187 = .ok (.iload_n 3, 1) := by decide +kernel
theorem dX11_burns_188 : decode cX11_burns 188 = .ok (.ifCond .eq 35, 3) := by decide +kernel
theorem dX11_burns_191 : decode cX11_burns 191 = .ok (.aload_n 0, 1) := by decide +kernel
theorem dX11_burns_192 : decode cX11_burns 192 = .ok (.getfield 137, 3) := by decide +kernel
theorem dX11_burns_195 : decode cX11_burns 195 = .ok (.aload_n 0, 1) := by decide +kernel
theorem dX11_burns_196 : decode cX11_burns 196 = .ok (.getfield 38, 3) := by decide +kernel
theorem dX11_burns_199 : decode cX11_burns 199 = .ok (.aload_n 0, 1) := by decide +kernel
theorem dX11_burns_200 : decode cX11_burns 200 = .ok (.getfield 41, 3) := by decide +kernel
theorem dX11_burns_203 : decode cX11_burns 203 = .ok (.iload_n 1, 1) := by decide +kernel
theorem dX11_burns_204 : decode cX11_burns 204 = .ok (.iaload, 1) := by decide +kernel
theorem dX11_burns_205 : decode cX11_burns 205 = .ok (.iaload, 1) := by decide +kernel
theorem dX11_burns_206 : decode cX11_burns 206 = .ok (.if_icmp .lt 17, 3) := by decide +kernel
theorem dX11_burns_209 : decode cX11_burns 209 = .ok (.iload 5, 2) := by decide +kernel
theorem dX11_burns_211 : decode cX11_burns 211 = .ok (.ifCond .eq 8, 3) := by decide +kernel
theorem dX11_burns_214 : decode cX11_burns 214 = .ok (.iload 6, 2) := by decide +kernel
theorem dX11_burns_216 : decode cX11_burns 216 = .ok (.ifCond .eq 7, 3) := by decide +kernel
theorem dX11_burns_219 : decode cX11_burns 219 = .ok (.iconst 1, 1) := by decide +kernel
theorem dX11_burns_220 : decode cX11_burns 220 = .ok (.goto 4, 3) := by decide +kernel
theorem dX11_burns_223 : decode cX11_burns 223 = .ok (.iconst 0, 1) := by decide +kernel
theorem dX11_burns_224 : decode cX11_burns 224 = .ok (.ireturn, 1) := by decide +kernel
theorem dX11_pass_0 : decode cX11_pass 0 = .ok (.aload_n 0, 1) := by decide +kernel
theorem dX11_pass_1 : decode cX11_pass 1 = .ok (.iload_n 1, 1) := by decide +kernel
theorem dX11_pass_2 : decode cX11_pass 2 = .ok (.iconst 1, 1) := by decide +kernel
theorem dX11_pass_3 : decode cX11_pass 3 = .ok (.sipush 500, 3) := by decide +kernel
theorem dX11_pass_6 : decode cX11_pass 6 = .ok (.invokestatic 111, 3) := by decide +kernel
theorem dX11_pass_9 : decode cX11_pass 9 = .ok (.ifCond .ne 7, 3) := by decide +kernel
theorem dX11_pass_12 : decode cX11_pass 12 = .ok (.iconst 1, 1) := by decide +kernel
theorem dX11_pass_13 : decode cX11_pass 13 = .ok (.goto 20, 3) := by decide +kernel
theorem dX11_pass_16 : decode cX11_pass 16 = .ok (.aload_n 0, 1) := by decide +kernel
theorem dX11_pass_17 : decode cX11_pass 17 = .ok (.getfield 137, 3) := by decide +kernel
theorem dX11_pass_20 : decode cX11_pass 20 = .ok (.iload_n 1, 1) := by decide +kernel
theorem dX11_pass_21 : decode cX11_pass 21 = .ok (.iadd, 1) := by decide +kernel
theorem dX11_pass_22 : decode cX11_pass 22 = .ok (.sipush 20000, 3) := by decide +kernel
theorem dX11_pass_25 : decode cX11_pass 25 = .ok (.if_icmp .le 7, 3) := by decide +kernel
theorem dX11_pass_28 : decode cX11_pass 28 = .ok (.iconst 2, 1) := by decide +kernel
theorem dX11_pass_29 : decode cX11_pass 29 = .ok (.goto 4, 3) := by decide +kernel
theorem dX11_pass_32 : decode cX11_pass 32 = .ok (.iconst 0, 1) := by decide +kernel
theorem dX11_pass_33 : decode cX11_pass 33 = .ok (.invokevirtual 128, 3) := by decide +kernel
theorem dX11_pass_36 : decode cX11_pass 36 = .ok (.ifCond .eq 5, 3) := by decide +kernel
theorem dX11_pass_39 : decode cX11_pass 39 = .ok (.iconst 0, 1) := by decide +kernel
theorem dX11_pass_40 : decode cX11_pass 40 = .ok (.ireturn, 1) := by decide +kernel
theorem dX11_pass_41 : decode cX11_pass 41 = .ok (.iconst 0, 1) := by decide +kernel
theorem dX11_pass_42 : decode cX11_pass 42 = .ok (.istore_n 2, 1) := by decide +kernel
theorem dX11_pass_43 : decode cX11_pass 43 = .ok (.iload_n 2, 1) := by decide +kernel
theorem dX11_pass_44 : decode cX11_pass 44 = .ok (.iload_n 1, 1) := by decide +kernel
theorem dX11_pass_45 : decode cX11_pass 45 = .ok (.if_icmp .ge 57, 3) := by decide +kernel
theorem dX11_pass_48 : decode cX11_pass 48 = .ok (.iconst 0, 1) := by decide +kernel
theorem dX11_pass_49 : decode cX11_pass 49 = .ok (.istore_n 3, 1) := by decide +kernel
theorem dX11_pass_50 : decode cX11_pass 50 = .ok (.iload_n 3, 1) := by decide +kernel
theorem dX11_pass_51 : decode cX11_pass 51 = .ok (.aload_n 0, 1) := by decide +kernel
theorem dX11_pass_52 : decode cX11_pass 52 = .ok (.getfield 118, 3) := by decide +kernel
theorem dX11_pass_55 : decode cX11_pass 55 = .ok (.if_icmp .ge 31, 3) := by decide +kernel
theorem dX11_pass_58 : decode cX11_pass 58 = .ok (.aload_n 0, 1) := by decide +kernel
theorem dX11_pass_59 : decode cX11_pass 59 = .ok (.getfield 68, 3) := by decide +kernel
theorem dX11_pass_62 : decode cX11_pass 62 = .ok (.iload_n 3, 1) := by decide +kernel
theorem dX11_pass_63 : decode cX11_pass 63 = .ok (.dup2, 1) := by decide +kernel
theorem dX11_pass_64 : decode cX11_pass 64 = .ok (.iaload, 1) := by decide +kernel
theorem dX11_pass_65 : decode cX11_pass 65 = .ok (.aload_n 0, 1) := by decide +kernel
theorem dX11_pass_66 : decode cX11_pass 66 = .ok (.iload_n 3, 1) := by decide +kernel
theorem dX11_pass_67 : decode cX11_pass 67 = .ok (.invokevirtual 140, 3) := by decide +kernel
theorem dX11_pass_70 : decode cX11_pass 70 = .ok (.ifCond .eq 7, 3) := by decide +kernel
theorem dX11_pass_73 : decode cX11_pass 73 = .ok (.iconst 1, 1) := by decide +kernel
theorem dX11_pass_74 : decode cX11_pass 74 = .ok (.goto 4, 3) := by decide +kernel
theorem dX11_pass_77 : decode cX11_pass 77 = .ok (.iconst 0, 1) := by decide +kernel
theorem dX11_pass_78 : decode cX11_pass 78 = .ok (.iadd, 1) := by decide +kernel
theorem dX11_pass_79 : decode cX11_pass 79 = .ok (.iastore, 1) := by decide +kernel
theorem dX11_pass_80 : decode cX11_pass 80 = .ok (.iinc 3 1, 3) := by decide +kernel
theorem dX11_pass_83 : decode cX11_pass 83 = .ok (.goto (-33), 3) := by decide +kernel
theorem dX11_pass_86 : decode cX11_pass 86 = .ok (.aload_n 0, 1) := by decide +kernel
theorem dX11_pass_87 : decode cX11_pass 87 = .ok (.dup, 1) := by decide +kernel
theorem dX11_pass_88 : decode cX11_pass 88 = .ok (.getfield 137, 3) := by decide +kernel
theorem dX11_pass_91 : decode cX11_pass 91 = .ok (.iconst 1, 1) := by decide +kernel
theorem dX11_pass_92 : decode cX11_pass 92 = .ok (.iadd, 1) := by decide +kernel
theorem dX11_pass_93 : decode cX11_pass 93 = .ok (.putfield 137, 3) := by decide +kernel
theorem dX11_pass_96 : decode cX11_pass 96 = .ok (.iinc 2 1, 3) := by decide +kernel
theorem dX11_pass_99 : decode cX11_pass 99 = .ok (.goto (-56), 3) := by decide +kernel
theorem dX11_pass_102 : decode cX11_pass 102 = .ok (.aload_n 0, 1) := by decide +kernel
theorem dX11_pass_103 : decode cX11_pass 103 = .ok (.getfield 137, 3) := by decide +kernel
theorem dX11_pass_106 : decode cX11_pass 106 = .ok (.ireturn, 1) := by decide +kernel
theorem dX11_village_0 : decode cX11_village 0 = .ok (.iload_n 1, 1) := by decide +kernel
theorem dX11_village_1 : decode cX11_village 1 = .ok (.iconst 1, 1) := by decide +kernel
theorem dX11_village_2 : decode cX11_village 2 = .ok (.sipush 500, 3) := by decide +kernel
theorem dX11_village_5 : decode cX11_village 5 = .ok (.invokestatic 111, 3) := by decide +kernel
theorem dX11_village_8 : decode cX11_village 8 = .ok (.ifCond .eq 18, 3) := by decide +kernel
theorem dX11_village_11 : decode cX11_village 11 = .ok (.iload_n 2, 1) := by decide +kernel
theorem dX11_village_12 : decode cX11_village 12 = .ok (.iconst 0, 1) := by decide +kernel
theorem dX11_village_13 : decode cX11_village 13 = .ok (.sipush 10000, 3) := by decide +kernel
theorem dX11_village_16 : decode cX11_village 16 = .ok (.invokestatic 111, 3) := by decide +kernel
theorem dX11_village_19 : decode cX11_village 19 = .ok (.ifCond .eq 7, 3) := by decide +kernel
theorem dX11_village_22 : decode cX11_village 22 = .ok (.iconst 1, 1) := by decide +kernel
theorem dX11_village_23 : decode cX11_village 23 = .ok (.goto 4, 3) := by decide +kernel
theorem dX11_village_26 : decode cX11_village 26 = .ok (.iconst 0, 1) := by decide +kernel
theorem dX11_village_27 : decode cX11_village 27 = .ok (.istore_n 3, 1) := by decide +kernel
theorem dX11_village_28 : decode cX11_village 28 = .ok (.aload_n 0, 1) := by decide +kernel
theorem dX11_village_29 : decode cX11_village 29 = .ok (.iload_n 3, 1) := by decide +kernel
theorem dX11_village_30 : decode cX11_village 30 = .ok (.ifCond .ne 7, 3) := by decide +kernel
theorem dX11_village_33 : decode cX11_village 33 = .ok (.iconst 1, 1) := by decide +kernel
theorem dX11_village_34 : decode cX11_village 34 = .ok (.goto 16, 3) := by decide +kernel
theorem dX11_village_37 : decode cX11_village 37 = .ok (.aload_n 0, 1) := by decide +kernel
theorem dX11_village_38 : decode cX11_village 38 = .ok (.getfield 115, 3) := by decide +kernel
theorem dX11_village_41 : decode cX11_village 41 = .ok (.iconst 5, 1) := by decide +kernel
theorem dX11_village_42 : decode cX11_village 42 = .ok (.if_icmp .ne 7, 3) := by decide +kernel
theorem dX11_village_45 : decode cX11_village 45 = .ok (.iconst 2, 1) := by decide +kernel
theorem dX11_village_46 : decode cX11_village 46 = .ok (.goto 4, 3) := by decide +kernel
theorem dX11_village_49 : decode cX11_village 49 = .ok (.iconst 0, 1) := by decide +kernel
theorem dX11_village_50 : decode cX11_village 50 = .ok (.invokevirtual 128, 3) := by decide +kernel
theorem dX11_village_53 : decode cX11_village 53 = .ok (.ifCond .eq 5, 3) := by decide +kernel
theorem dX11_village_56 : decode cX11_village 56 = .ok (.iconst 0, 1) := by decide +kernel
theorem dX11_village_57 : decode cX11_village 57 = .ok (.ireturn, 1) := by decide +kernel
theorem dX11_village_58 : decode cX11_village 58 = .ok (.aload_n 0, 1) := by decide +kernel
theorem dX11_village_59 : decode cX11_village 59 = .ok (.getfield 29, 3) := by decide +kernel
theorem dX11_village_62 : decode cX11_village 62 = .ok (.aload_n 0, 1) := by decide +kernel
theorem dX11_village_63 : decode cX11_village 63 = .ok (.getfield 115, 3) := by decide +kernel
theorem dX11_village_66 : decode cX11_village 66 = .ok (.iload_n 1, 1) := by decide +kernel
theorem dX11_village_67 : decode cX11_village 67 = .ok (.iastore, 1) := by decide +kernel
theorem dX11_village_68 : decode cX11_village 68 = .ok (.aload_n 0, 1) := by decide +kernel
theorem dX11_village_69 : decode cX11_village 69 = .ok (.getfield 32, 3) := by decide +kernel
theorem dX11_village_72 : decode cX11_village 72 = .ok (.aload_n 0, 1) := by decide +kernel
theorem dX11_village_73 : decode cX11_village 73 = .ok (.getfield 115, 3) := by decide +kernel
theorem dX11_village_76 : decode cX11_village 76 = .ok (.iload_n 2, 1) := by decide +kernel
theorem dX11_village_77 : decode cX11_village 77 = .ok (.iastore, 1) := by decide +kernel
theorem dX11_village_78 : decode cX11_village 78 = .ok (.aload_n 0, 1) := by decide +kernel
theorem dX11_village_79 : decode cX11_village 79 = .ok (.dup, 1) := by decide +kernel
theorem dX11_village_80 : decode cX11_village 80 = .ok (.getfield 115, 3) := by decide +kernel
theorem dX11_village_83 : decode cX11_village 83 = .ok (.iconst 1, 1) := by decide +kernel
theorem dX11_village_84 : decode cX11_village 84 = .ok (.iadd, 1) := by decide +kernel
theorem dX11_village_85 : decode cX11_village 85 = .ok (.putfield 115, 3) := by decide +kernel
theorem dX11_village_88 : decode cX11_village 88 = .ok (.aload_n 0, 1) := by decide +kernel
theorem dX11_village_89 : decode cX11_village 89 = .ok (.getfield 115, 3) := by decide +kernel
theorem dX11_village_92 : decode cX11_village 92 = .ok (.iconst 1, 1) := by decide +kernel
theorem dX11_village_93 : decode cX11_village 93 = .ok (.isub, 1) := by decide +kernel
theorem dX11_village_94 : decode cX11_village 94 = .ok (.ireturn, 1) := by decide +kernel
theorem dX11_lampsOf_0 : decode cX11_lampsOf 0 = .ok (.iconst 0, 1) := by decide +kernel
theorem dX11_lampsOf_1 : decode cX11_lampsOf 1 = .ok (.istore_n 2, 1) := by decide +kernel
theorem dX11_lampsOf_2 : decode cX11_lampsOf 2 = .ok (.iconst 0, 1) := by decide +kernel
theorem dX11_lampsOf_3 : decode cX11_lampsOf 3 = .ok (.istore_n 3, 1) := by decide +kernel
theorem dX11_lampsOf_4 : decode cX11_lampsOf 4 = .ok (.iload_n 3, 1) := by decide +kernel
theorem dX11_lampsOf_5 : decode cX11_lampsOf 5 = .ok (.aload_n 0, 1) := by decide +kernel
theorem dX11_lampsOf_6 : decode cX11_lampsOf 6 = .ok (.getfield 118, 3) := by decide +kernel
theorem dX11_lampsOf_9 : decode cX11_lampsOf 9 = .ok (.if_icmp .ge 27, 3) := by decide +kernel
theorem dX11_lampsOf_12 : decode cX11_lampsOf 12 = .ok (.iload_n 2, 1) := by decide +kernel
theorem dX11_lampsOf_13 : decode cX11_lampsOf 13 = .ok (.aload_n 0, 1) := by decide +kernel
theorem dX11_lampsOf_14 : decode cX11_lampsOf 14 = .ok (.getfield 41, 3) := by decide +kernel
theorem dX11_lampsOf_17 : decode cX11_lampsOf 17 = .ok (.iload_n 3, 1) := by decide +kernel
theorem dX11_lampsOf_18 : decode cX11_lampsOf 18 = .ok (.iaload, 1) := by decide +kernel
theorem dX11_lampsOf_19 : decode cX11_lampsOf 19 = .ok (.iload_n 1, 1) := by decide +kernel
theorem dX11_lampsOf_20 : decode cX11_lampsOf 20 = .ok (.if_icmp .ne 7, 3) := by decide +kernel
theorem dX11_lampsOf_23 : decode cX11_lampsOf 23 = .ok (.iconst 1, 1) := by decide +kernel
theorem dX11_lampsOf_24 : decode cX11_lampsOf 24 = .ok (.goto 4, 3) := by decide +kernel
theorem dX11_lampsOf_27 : decode cX11_lampsOf 27 = .ok (.iconst 0, 1) := by decide +kernel
theorem dX11_lampsOf_28 : decode cX11_lampsOf 28 = .ok (.iadd, 1) := by decide +kernel
theorem dX11_lampsOf_29 : decode cX11_lampsOf 29 = .ok (.istore_n 2, 1) := by decide +kernel
theorem dX11_lampsOf_30 : decode cX11_lampsOf 30 = .ok (.iinc 3 1, 3) := by decide +kernel
theorem dX11_lampsOf_33 : decode cX11_lampsOf 33 = .ok (.goto (-29), 3) := by decide +kernel
theorem dX11_lampsOf_36 : decode cX11_lampsOf 36 = .ok (.iload_n 2, 1) := by decide +kernel
theorem dX11_lampsOf_37 : decode cX11_lampsOf 37 = .ok (.ireturn, 1) := by decide +kernel
theorem dX11_lamp_0 : decode cX11_lamp 0 = .ok (.iload_n 3, 1) := by decide +kernel
theorem dX11_lamp_1 : decode cX11_lamp 1 = .ok (.iconst 1, 1) := by decide +kernel
theorem dX11_lamp_2 : decode cX11_lamp 2 = .ok (.sipush 10000, 3) := by decide +kernel
theorem dX11_lamp_5 : decode cX11_lamp 5 = .ok (.invokestatic 111, 3) := by decide +kernel
theorem dX11_lamp_8 : decode cX11_lamp 8 = .ok (.ifCond .eq 28, 3) := by decide +kernel
theorem dX11_lamp_11 : decode cX11_lamp 11 = .ok (.iload 4, 2) := by decide +kernel
theorem dX11_lamp_13 : decode cX11_lamp 13 = .ok (.iconst 0, 1) := by decide +kernel
theorem dX11_lamp_14 : decode cX11_lamp 14 = .ok (.iconst 2, 1) := by decide +kernel
theorem dX11_lamp_15 : decode cX11_lamp 15 = .ok (.invokestatic 111, 3) := by decide +kernel
theorem dX11_lamp_18 : decode cX11_lamp 18 = .ok (.ifCond .eq 18, 3) := by decide +kernel
theorem dX11_lamp_21 : decode cX11_lamp 21 = .ok (.iload 5, 2) := by decide +kernel
theorem dX11_lamp_23 : decode cX11_lamp 23 = .ok (.iconst 0, 1) := by decide +kernel
theorem dX11_lamp_24 : decode cX11_lamp 24 = .ok (.bipush 10, 2) := by decide +kernel
theorem dX11_lamp_26 : decode cX11_lamp 26 = .ok (.invokestatic 111, 3) := by decide +kernel
theorem dX11_lamp_29 : decode cX11_lamp 29 = .ok (.ifCond .eq 7, 3) := by decide +kernel
theorem dX11_lamp_32 : decode cX11_lamp 32 = .ok (.iconst 1, 1) := by decide +kernel
theorem dX11_lamp_33 : decode cX11_lamp 33 = .ok (.goto 4, 3) := by decide +kernel
theorem dX11_lamp_36 : decode cX11_lamp 36 = .ok (.iconst 0, 1) := by decide +kernel
theorem dX11_lamp_37 : decode cX11_lamp 37 = .ok (.istore 6, 2) := by decide +kernel
theorem dX11_lamp_39 : decode cX11_lamp 39 = .ok (.aload_n 0, 1) := by decide +kernel
theorem dX11_lamp_40 : decode cX11_lamp 40 = .ok (.iload_n 1, 1) := by decide +kernel
theorem dX11_lamp_41 : decode cX11_lamp 41 = .ok (.invokevirtual 143, 3) := by decide +kernel
theorem dX11_lamp_44 : decode cX11_lamp 44 = .ok (.ifCond .eq 14, 3) := by decide +kernel
theorem dX11_lamp_47 : decode cX11_lamp 47 = .ok (.iload_n 2, 1) := by decide +kernel
theorem dX11_lamp_48 : decode cX11_lamp 48 = .ok (.invokestatic 124, 3) := by decide +kernel
theorem dX11_lamp_51 : decode cX11_lamp 51 = .ok (.ifCond .eq 7, 3) := by decide +kernel
theorem dX11_lamp_54 : decode cX11_lamp 54 = .ok (.iconst 1, 1) := by decide +kernel
theorem dX11_lamp_55 : decode cX11_lamp 55 = .ok (.goto 4, 3) := by decide +kernel
theorem dX11_lamp_58 : decode cX11_lamp 58 = .ok (.iconst 0, 1) := by decide +kernel
theorem dX11_lamp_59 : decode cX11_lamp 59 = .ok (.istore 7, 2) := by decide +kernel
theorem dX11_lamp_61 : decode cX11_lamp 61 = .ok (.aload_n 0, 1) := by decide +kernel
theorem dX11_lamp_62 : decode cX11_lamp 62 = .ok (.iload 7, 2) := by decide +kernel
theorem dX11_lamp_64 : decode cX11_lamp 64 = .ok (.ifCond .ne 7, 3) := by decide +kernel
theorem dX11_lamp_67 : decode cX11_lamp 67 = .ok (.iconst 1, 1) := by decide +kernel
theorem dX11_lamp_68 : decode cX11_lamp 68 = .ok (.goto 36, 3) := by decide +kernel
theorem dX11_lamp_71 : decode cX11_lamp 71 = .ok (.iload 6, 2) := by decide +kernel
theorem dX11_lamp_73 : decode cX11_lamp 73 = .ok (.ifCond .ne 7, 3) := by decide +kernel
theorem dX11_lamp_76 : decode cX11_lamp 76 = .ok (.iconst 2, 1) := by decide +kernel
theorem dX11_lamp_77 : decode cX11_lamp 77 = .ok (.goto 27, 3) := by decide +kernel
theorem dX11_lamp_80 : decode cX11_lamp 80 = .ok (.aload_n 0, 1) := by decide +kernel
theorem dX11_lamp_81 : decode cX11_lamp 81 = .ok (.getfield 118, 3) := by decide +kernel
theorem dX11_lamp_84 : decode cX11_lamp 84 = .ok (.bipush 40, 2) := by decide +kernel
theorem dX11_lamp_86 : decode cX11_lamp 86 = .ok (.if_icmp .eq 13, 3) := by decide +kernel
theorem dX11_lamp_89 : decode cX11_lamp 89 = .ok (.aload_n 0, 1) := by decide +kernel
theorem dX11_lamp_90 : decode cX11_lamp 90 = .ok (.iload_n 1, 1) := by decide +kernel
theorem dX11_lamp_91 : decode cX11_lamp 91 = .ok (.invokevirtual 146, 3) := by decide +kernel
theorem dX11_lamp_94 : decode cX11_lamp 94 = .ok (.bipush 10, 2) := by decide +kernel
theorem dX11_lamp_96 : decode cX11_lamp 96 = .ok (.if_icmp .ne 7, 3) := by decide +kernel
theorem dX11_lamp_99 : decode cX11_lamp 99 = .ok (.iconst 3, 1) := by decide +kernel
theorem dX11_lamp_100 : decode cX11_lamp 100 = .ok (.goto 4, 3) := by decide +kernel
theorem dX11_lamp_103 : decode cX11_lamp 103 = .ok (.iconst 0, 1) := by decide +kernel
theorem dX11_lamp_104 : decode cX11_lamp 104 = .ok (.invokevirtual 128, 3) := by decide +kernel
theorem dX11_lamp_107 : decode cX11_lamp 107 = .ok (.ifCond .eq 5, 3) := by decide +kernel
theorem dX11_lamp_110 : decode cX11_lamp 110 = .ok (.iconst 0, 1) := by decide +kernel
theorem dX11_lamp_111 : decode cX11_lamp 111 = .ok (.ireturn, 1) := by decide +kernel
theorem dX11_lamp_112 : decode cX11_lamp 112 = .ok (.aload_n 0, 1) := by decide +kernel
theorem dX11_lamp_113 : decode cX11_lamp 113 = .ok (.getfield 41, 3) := by decide +kernel
theorem dX11_lamp_116 : decode cX11_lamp 116 = .ok (.aload_n 0, 1) := by decide +kernel
theorem dX11_lamp_117 : decode cX11_lamp 117 = .ok (.getfield 118, 3) := by decide +kernel
theorem dX11_lamp_120 : decode cX11_lamp 120 = .ok (.iload_n 1, 1) := by decide +kernel
theorem dX11_lamp_121 : decode cX11_lamp 121 = .ok (.iastore, 1) := by decide +kernel
theorem dX11_lamp_122 : decode cX11_lamp 122 = .ok (.aload_n 0, 1) := by decide +kernel
theorem dX11_lamp_123 : decode cX11_lamp 123 = .ok (.getfield 44, 3) := by decide +kernel
theorem dX11_lamp_126 : decode cX11_lamp 126 = .ok (.aload_n 0, 1) := by decide +kernel
theorem dX11_lamp_127 : decode cX11_lamp 127 = .ok (.getfield 118, 3) := by decide +kernel
theorem dX11_lamp_130 : decode cX11_lamp 130 = .ok (.iload_n 2, 1) := by decide +kernel
theorem dX11_lamp_131 : decode cX11_lamp 131 = .ok (.iastore, 1) := by decide +kernel
theorem dX11_lamp_132 : decode cX11_lamp 132 = .ok (.aload_n 0, 1) := by decide +kernel
theorem dX11_lamp_133 : decode cX11_lamp 133 = .ok (.getfield 47, 3) := by decide +kernel
theorem dX11_lamp_136 : decode cX11_lamp 136 = .ok (.aload_n 0, 1) := by decide +kernel
theorem dX11_lamp_137 : decode cX11_lamp 137 = .ok (.getfield 118, 3) := by decide +kernel
theorem dX11_lamp_140 : decode cX11_lamp 140 = .ok (.iload_n 3, 1) := by decide +kernel
theorem dX11_lamp_141 : decode cX11_lamp 141 = .ok (.iastore, 1) := by decide +kernel
theorem dX11_lamp_142 : decode cX11_lamp 142 = .ok (.aload_n 0, 1) := by decide +kernel
theorem dX11_lamp_143 : decode cX11_lamp 143 = .ok (.getfield 50, 3) := by decide +kernel
theorem dX11_lamp_146 : decode cX11_lamp 146 = .ok (.aload_n 0, 1) := by decide +kernel
theorem dX11_lamp_147 : decode cX11_lamp 147 = .ok (.getfield 118, 3) := by decide +kernel
theorem dX11_lamp_150 : decode cX11_lamp 150 = .ok (.iload 4, 2) := by decide +kernel
theorem dX11_lamp_152 : decode cX11_lamp 152 = .ok (.iastore, 1) := by decide +kernel
theorem dX11_lamp_153 : decode cX11_lamp 153 = .ok (.aload_n 0, 1) := by decide +kernel
theorem dX11_lamp_154 : decode cX11_lamp 154 = .ok (.getfield 53, 3) := by decide +kernel
theorem dX11_lamp_157 : decode cX11_lamp 157 = .ok (.aload_n 0, 1) := by decide +kernel
theorem dX11_lamp_158 : decode cX11_lamp 158 = .ok (.getfield 118, 3) := by decide +kernel
theorem dX11_lamp_161 : decode cX11_lamp 161 = .ok (.iload 5, 2) := by decide +kernel
theorem dX11_lamp_163 : decode cX11_lamp 163 = .ok (.iastore, 1) := by decide +kernel
theorem dX11_lamp_164 : decode cX11_lamp 164 = .ok (.aload_n 0, 1) := by decide +kernel
theorem dX11_lamp_165 : decode cX11_lamp 165 = .ok (.getfield 59, 3) := by decide +kernel
theorem dX11_lamp_168 : decode cX11_lamp 168 = .ok (.aload_n 0, 1) := by decide +kernel
theorem dX11_lamp_169 : decode cX11_lamp 169 = .ok (.getfield 118, 3) := by decide +kernel
theorem dX11_lamp_172 : decode cX11_lamp 172 = .ok (.bipush 18, 2) := by decide +kernel
theorem dX11_lamp_174 : decode cX11_lamp 174 = .ok (.iastore, 1) := by decide +kernel
theorem dX11_lamp_175 : decode cX11_lamp 175 = .ok (.aload_n 0, 1) := by decide +kernel
theorem dX11_lamp_176 : decode cX11_lamp 176 = .ok (.getfield 62, 3) := by decide +kernel
theorem dX11_lamp_179 : decode cX11_lamp 179 = .ok (.aload_n 0, 1) := by decide +kernel
theorem dX11_lamp_180 : decode cX11_lamp 180 = .ok (.getfield 118, 3) := by decide +kernel
theorem dX11_lamp_183 : decode cX11_lamp 183 = .ok (.bipush 6, 2) := by decide +kernel
theorem dX11_lamp_185 : decode cX11_lamp 185 = .ok (.iastore, 1) := by decide +kernel
theorem dX11_lamp_186 : decode cX11_lamp 186 = .ok (.aload_n 0, 1) := by decide +kernel
theorem dX11_lamp_187 : decode cX11_lamp 187 = .ok (.getfield 74, 3) := by decide +kernel
theorem dX11_lamp_190 : decode cX11_lamp 190 = .ok (.aload_n 0, 1) := by decide +kernel
theorem dX11_lamp_191 : decode cX11_lamp 191 = .ok (.getfield 118, 3) := by decide +kernel
theorem dX11_lamp_194 : decode cX11_lamp 194 = .ok (.ldc 150, 2) := by decide +kernel
theorem dX11_lamp_196 : decode cX11_lamp 196 = .ok (.iastore, 1) := by decide +kernel
theorem dX11_lamp_197 : decode cX11_lamp 197 = .ok (.aload_n 0, 1) := by decide +kernel
theorem dX11_lamp_198 : decode cX11_lamp 198 = .ok (.dup, 1) := by decide +kernel
theorem dX11_lamp_199 : decode cX11_lamp 199 = .ok (.getfield 118, 3) := by decide +kernel
theorem dX11_lamp_202 : decode cX11_lamp 202 = .ok (.iconst 1, 1) := by decide +kernel
theorem dX11_lamp_203 : decode cX11_lamp 203 = .ok (.iadd, 1) := by decide +kernel
theorem dX11_lamp_204 : decode cX11_lamp 204 = .ok (.putfield 118, 3) := by decide +kernel
theorem dX11_lamp_207 : decode cX11_lamp 207 = .ok (.aload_n 0, 1) := by decide +kernel
theorem dX11_lamp_208 : decode cX11_lamp 208 = .ok (.getfield 118, 3) := by decide +kernel
theorem dX11_lamp_211 : decode cX11_lamp 211 = .ok (.iconst 1, 1) := by decide +kernel
theorem dX11_lamp_212 : decode cX11_lamp 212 = .ok (.isub, 1) := by decide +kernel
theorem dX11_lamp_213 : decode cX11_lamp 213 = .ok (.ireturn, 1) := by decide +kernel
theorem dX11_isBound_0 : decode cX11_isBound 0 = .ok (.aload_n 0, 1) := by decide +kernel
theorem dX11_isBound_1 : decode cX11_isBound 1 = .ok (.getfield 137, 3) := by decide +kernel
theorem dX11_isBound_4 : decode cX11_isBound 4 = .ok (.aload_n 0, 1) := by decide +kernel
theorem dX11_isBound_5 : decode cX11_isBound 5 = .ok (.getfield 71, 3) := by decide +kernel
theorem dX11_isBound_8 : decode cX11_isBound 8 = .ok (.iload_n 1, 1) := by decide +kernel
theorem dX11_isBound_9 : decode cX11_isBound 9 = .ok (.iaload, 1) := by decide +kernel
theorem dX11_isBound_10 : decode cX11_isBound 10 = .ok (.if_icmp .ge 7, 3) := by decide +kernel
theorem dX11_isBound_13 : decode cX11_isBound 13 = .ok (.iconst 1, 1) := by decide +kernel
theorem dX11_isBound_14 : decode cX11_isBound 14 = .ok (.goto 4, 3) := by decide +kernel
theorem dX11_isBound_17 : decode cX11_isBound 17 = .ok (.iconst 0, 1) := by decide +kernel
theorem dX11_isBound_18 : decode cX11_isBound 18 = .ok (.ireturn, 1) := by decide +kernel
theorem dX11_hours_0 : decode cX11_hours 0 = .ok (.iload_n 2, 1) := by decide +kernel
theorem dX11_hours_1 : decode cX11_hours 1 = .ok (.iconst 0, 1) := by decide +kernel
theorem dX11_hours_2 : decode cX11_hours 2 = .ok (.bipush 23, 2) := by decide +kernel
theorem dX11_hours_4 : decode cX11_hours 4 = .ok (.invokestatic 111, 3) := by decide +kernel
theorem dX11_hours_7 : decode cX11_hours 7 = .ok (.ifCond .eq 17, 3) := by decide +kernel
theorem dX11_hours_10 : decode cX11_hours 10 = .ok (.iload_n 3, 1) := by decide +kernel
theorem dX11_hours_11 : decode cX11_hours 11 = .ok (.iconst 0, 1) := by decide +kernel
theorem dX11_hours_12 : decode cX11_hours 12 = .ok (.bipush 23, 2) := by decide +kernel
theorem dX11_hours_14 : decode cX11_hours 14 = .ok (.invokestatic 111, 3) := by decide +kernel
theorem dX11_hours_17 : decode cX11_hours 17 = .ok (.ifCond .eq 7, 3) := by decide +kernel
theorem dX11_hours_20 : decode cX11_hours 20 = .ok (.iconst 1, 1) := by decide +kernel
theorem dX11_hours_21 : decode cX11_hours 21 = .ok (.goto 4, 3) := by decide +kernel
theorem dX11_hours_24 : decode cX11_hours 24 = .ok (.iconst 0, 1) := by decide +kernel
theorem dX11_hours_25 : decode cX11_hours 25 = .ok (.istore 4, 2) := by decide +kernel
theorem dX11_hours_27 : decode cX11_hours 27 = .ok (.aload_n 0, 1) := by decide +kernel
theorem dX11_hours_28 : decode cX11_hours 28 = .ok (.aload_n 0, 1) := by decide +kernel
theorem dX11_hours_29 : decode cX11_hours 29 = .ok (.iload_n 1, 1) := by decide +kernel
theorem dX11_hours_30 : decode cX11_hours 30 = .ok (.invokevirtual 151, 3) := by decide +kernel
theorem dX11_hours_33 : decode cX11_hours 33 = .ok (.ifCond .ne 7, 3) := by decide +kernel
theorem dX11_hours_36 : decode cX11_hours 36 = .ok (.iconst 1, 1) := by decide +kernel
theorem dX11_hours_37 : decode cX11_hours 37 = .ok (.goto 25, 3) := by decide +kernel
theorem dX11_hours_40 : decode cX11_hours 40 = .ok (.iload 4, 2) := by decide +kernel
theorem dX11_hours_42 : decode cX11_hours 42 = .ok (.ifCond .ne 7, 3) := by decide +kernel
theorem dX11_hours_45 : decode cX11_hours 45 = .ok (.iconst 2, 1) := by decide +kernel
theorem dX11_hours_46 : decode cX11_hours 46 = .ok (.goto 16, 3) := by decide +kernel
theorem dX11_hours_49 : decode cX11_hours 49 = .ok (.aload_n 0, 1) := by decide +kernel
theorem dX11_hours_50 : decode cX11_hours 50 = .ok (.iload_n 1, 1) := by decide +kernel
theorem dX11_hours_51 : decode cX11_hours 51 = .ok (.invokevirtual 154, 3) := by decide +kernel
theorem dX11_hours_54 : decode cX11_hours 54 = .ok (.ifCond .eq 7, 3) := by decide +kernel
theorem dX11_hours_57 : decode cX11_hours 57 = .ok (.iconst 3, 1) := by decide +kernel
theorem dX11_hours_58 : decode cX11_hours 58 = .ok (.goto 4, 3) := by decide +kernel
theorem dX11_hours_61 : decode cX11_hours 61 = .ok (.iconst 0, 1) := by decide +kernel
theorem dX11_hours_62 : decode cX11_hours 62 = .ok (.invokevirtual 128, 3) := by decide +kernel
theorem dX11_hours_65 : decode cX11_hours 65 = .ok (.ifCond .ne 17, 3) := by decide +kernel
theorem dX11_hours_68 : decode cX11_hours 68 = .ok (.aload_n 0, 1) := by decide +kernel
theorem dX11_hours_69 : decode cX11_hours 69 = .ok (.getfield 59, 3) := by decide +kernel
theorem dX11_hours_72 : decode cX11_hours 72 = .ok (.iload_n 1, 1) := by decide +kernel
theorem dX11_hours_73 : decode cX11_hours 73 = .ok (.iload_n 2, 1) := by decide +kernel
theorem dX11_hours_74 : decode cX11_hours 74 = .ok (.iastore, 1) := by decide +kernel
theorem dX11_hours_75 : decode cX11_hours 75 = .ok (.aload_n 0, 1) := by decide +kernel
theorem dX11_hours_76 : decode cX11_hours 76 = .ok (.getfield 62, 3) := by decide +kernel
theorem dX11_hours_79 : decode cX11_hours 79 = .ok (.iload_n 1, 1) := by decide +kernel
theorem dX11_hours_80 : decode cX11_hours 80 = .ok (.iload_n 3, 1) := by decide +kernel
theorem dX11_hours_81 : decode cX11_hours 81 = .ok (.iastore, 1) := by decide +kernel
theorem dX11_hours_82 : decode cX11_hours 82 = .ok (.return_, 1) := by decide +kernel
theorem dX11_exempt_0 : decode cX11_exempt 0 = .ok (.aload_n 0, 1) := by decide +kernel
theorem dX11_exempt_1 : decode cX11_exempt 1 = .ok (.aload_n 0, 1) := by decide +kernel
theorem dX11_exempt_2 : decode cX11_exempt 2 = .ok (.iload_n 1, 1) := by decide +kernel
theorem dX11_exempt_3 : decode cX11_exempt 3 = .ok (.invokevirtual 151, 3) := by decide +kernel
theorem dX11_exempt_6 : decode cX11_exempt 6 = .ok (.ifCond .eq 7, 3) := by decide +kernel
theorem dX11_exempt_9 : decode cX11_exempt 9 = .ok (.iconst 0, 1) := by decide +kernel
theorem dX11_exempt_10 : decode cX11_exempt 10 = .ok (.goto 4, 3) := by decide +kernel
theorem dX11_exempt_13 : decode cX11_exempt 13 = .ok (.iconst 1, 1) := by decide +kernel
theorem dX11_exempt_14 : decode cX11_exempt 14 = .ok (.invokevirtual 128, 3) := by decide +kernel
theorem dX11_exempt_17 : decode cX11_exempt 17 = .ok (.ifCond .eq 5, 3) := by decide +kernel
theorem dX11_exempt_20 : decode cX11_exempt 20 = .ok (.iconst 0, 1) := by decide +kernel
theorem dX11_exempt_21 : decode cX11_exempt 21 = .ok (.ireturn, 1) := by decide +kernel
theorem dX11_exempt_22 : decode cX11_exempt 22 = .ok (.aload_n 0, 1) := by decide +kernel
theorem dX11_exempt_23 : decode cX11_exempt 23 = .ok (.getfield 65, 3) := by decide +kernel
theorem dX11_exempt_26 : decode cX11_exempt 26 = .ok (.iload_n 1, 1) := by decide +kernel
theorem dX11_exempt_27 : decode cX11_exempt 27 = .ok (.baload, 1) := by decide +kernel
theorem dX11_exempt_28 : decode cX11_exempt 28 = .ok (.istore_n 3, 1) := by decide +kernel
theorem dX11_exempt_29 : decode cX11_exempt 29 = .ok (.aload_n 0, 1) := by decide +kernel
theorem dX11_exempt_30 : decode cX11_exempt 30 = .ok (.getfield 65, 3) := by decide +kernel
theorem dX11_exempt_33 : decode cX11_exempt 33 = .ok (.iload_n 1, 1) := by decide +kernel
theorem dX11_exempt_34 : decode cX11_exempt 34 = .ok (.iload_n 2, 1) := by decide +kernel
theorem dX11_exempt_35 : decode cX11_exempt 35 = .ok (.bastore, 1) := by decide +kernel
theorem dX11_exempt_36 : decode cX11_exempt 36 = .ok (.iload_n 3, 1) := by decide +kernel
theorem dX11_exempt_37 : decode cX11_exempt 37 = .ok (.ireturn, 1) := by decide +kernel
theorem dX11_outage_0 : decode cX11_outage 0 = .ok (.aload_n 0, 1) := by decide +kernel
theorem dX11_outage_1 : decode cX11_outage 1 = .ok (.aload_n 0, 1) := by decide +kernel
theorem dX11_outage_2 : decode cX11_outage 2 = .ok (.iload_n 1, 1) := by decide +kernel
theorem dX11_outage_3 : decode cX11_outage 3 = .ok (.invokevirtual 143, 3) := by decide +kernel
theorem dX11_outage_6 : decode cX11_outage 6 = .ok (.ifCond .ne 7, 3) := by decide +kernel
theorem dX11_outage_9 : decode cX11_outage 9 = .ok (.iconst 1, 1) := by decide +kernel
theorem dX11_outage_10 : decode cX11_outage 10 = .ok (.goto 19, 3) := by decide +kernel
theorem dX11_outage_13 : decode cX11_outage 13 = .ok (.iload_n 2, 1) := by decide +kernel
theorem dX11_outage_14 : decode cX11_outage 14 = .ok (.iconst 0, 1) := by decide +kernel
theorem dX11_outage_15 : decode cX11_outage 15 = .ok (.sipush 500, 3) := by decide +kernel
theorem dX11_outage_18 : decode cX11_outage 18 = .ok (.invokestatic 111, 3) := by decide +kernel
theorem dX11_outage_21 : decode cX11_outage 21 = .ok (.ifCond .eq 7, 3) := by decide +kernel
theorem dX11_outage_24 : decode cX11_outage 24 = .ok (.iconst 0, 1) := by decide +kernel
theorem dX11_outage_25 : decode cX11_outage 25 = .ok (.goto 4, 3) := by decide +kernel
theorem dX11_outage_28 : decode cX11_outage 28 = .ok (.iconst 2, 1) := by decide +kernel
theorem dX11_outage_29 : decode cX11_outage 29 = .ok (.invokevirtual 128, 3) := by decide +kernel
theorem dX11_outage_32 : decode cX11_outage 32 = .ok (.ifCond .eq 5, 3) := by decide +kernel
theorem dX11_outage_35 : decode cX11_outage 35 = .ok (.iconst 0, 1) := by decide +kernel
theorem dX11_outage_36 : decode cX11_outage 36 = .ok (.ireturn, 1) := by decide +kernel
theorem dX11_outage_37 : decode cX11_outage 37 = .ok (.aload_n 0, 1) := by decide +kernel
theorem dX11_outage_38 : decode cX11_outage 38 = .ok (.getfield 38, 3) := by decide +kernel
theorem dX11_outage_41 : decode cX11_outage 41 = .ok (.iload_n 1, 1) := by decide +kernel
theorem dX11_outage_42 : decode cX11_outage 42 = .ok (.iaload, 1) := by decide +kernel
theorem dX11_outage_43 : decode cX11_outage 43 = .ok (.aload_n 0, 1) := by decide +kernel
theorem dX11_outage_44 : decode cX11_outage 44 = .ok (.getfield 137, 3) := by decide +kernel
theorem dX11_outage_47 : decode cX11_outage 47 = .ok (.if_icmp .le 17, 3) := by decide +kernel
theorem dX11_outage_50 : decode cX11_outage 50 = .ok (.aload_n 0, 1) := by decide +kernel
theorem dX11_outage_51 : decode cX11_outage 51 = .ok (.getfield 38, 3) := by decide +kernel
theorem dX11_outage_54 : decode cX11_outage 54 = .ok (.iload_n 1, 1) := by decide +kernel
theorem dX11_outage_55 : decode cX11_outage 55 = .ok (.iaload, 1) := by decide +kernel
theorem dX11_outage_56 : decode cX11_outage 56 = .ok (.aload_n 0, 1) := by decide +kernel
theorem dX11_outage_57 : decode cX11_outage 57 = .ok (.getfield 137, 3) := by decide +kernel
theorem dX11_outage_60 : decode cX11_outage 60 = .ok (.isub, 1) := by decide +kernel
theorem dX11_outage_61 : decode cX11_outage 61 = .ok (.goto 4, 3) := by decide +kernel
theorem dX11_outage_64 : decode cX11_outage 64 = .ok (.iconst 0, 1) := by decide +kernel
theorem dX11_outage_65 : decode cX11_outage 65 = .ok (.istore_n 3, 1) := by decide +kernel
theorem dX11_outage_66 : decode cX11_outage 66 = .ok (.aload_n 0, 1) := by decide +kernel
theorem dX11_outage_67 : decode cX11_outage 67 = .ok (.getfield 38, 3) := by decide +kernel
theorem dX11_outage_70 : decode cX11_outage 70 = .ok (.iload_n 1, 1) := by decide +kernel
theorem dX11_outage_71 : decode cX11_outage 71 = .ok (.aload_n 0, 1) := by decide +kernel
theorem dX11_outage_72 : decode cX11_outage 72 = .ok (.getfield 137, 3) := by decide +kernel
theorem dX11_outage_75 : decode cX11_outage 75 = .ok (.iload_n 2, 1) := by decide +kernel
theorem dX11_outage_76 : decode cX11_outage 76 = .ok (.iadd, 1) := by decide +kernel
theorem dX11_outage_77 : decode cX11_outage 77 = .ok (.iastore, 1) := by decide +kernel
theorem dX11_outage_78 : decode cX11_outage 78 = .ok (.iload_n 3, 1) := by decide +kernel
theorem dX11_outage_79 : decode cX11_outage 79 = .ok (.ireturn, 1) := by decide +kernel
theorem dX11_vote_0 : decode cX11_vote 0 = .ok (.aload_n 0, 1) := by decide +kernel
theorem dX11_vote_1 : decode cX11_vote 1 = .ok (.iload_n 1, 1) := by decide +kernel
theorem dX11_vote_2 : decode cX11_vote 2 = .ok (.invokevirtual 151, 3) := by decide +kernel
theorem dX11_vote_5 : decode cX11_vote 5 = .ok (.istore 6, 2) := by decide +kernel
theorem dX11_vote_7 : decode cX11_vote 7 = .ok (.iload_n 2, 1) := by decide +kernel
theorem dX11_vote_8 : decode cX11_vote 8 = .ok (.iconst 0, 1) := by decide +kernel
theorem dX11_vote_9 : decode cX11_vote 9 = .ok (.bipush 10, 2) := by decide +kernel
theorem dX11_vote_11 : decode cX11_vote 11 = .ok (.invokestatic 111, 3) := by decide +kernel
theorem dX11_vote_14 : decode cX11_vote 14 = .ok (.ifCond .eq 41, 3) := by decide +kernel
theorem dX11_vote_17 : decode cX11_vote 17 = .ok (.iload_n 3, 1) := by decide +kernel
theorem dX11_vote_18 : decode cX11_vote 18 = .ok (.iconst 0, 1) := by decide +kernel
theorem dX11_vote_19 : decode cX11_vote 19 = .ok (.bipush 10, 2) := by decide +kernel
theorem dX11_vote_21 : decode cX11_vote 21 = .ok (.invokestatic 111, 3) := by decide +kernel
theorem dX11_vote_24 : decode cX11_vote 24 = .ok (.ifCond .eq 31, 3) := by decide +kernel
theorem dX11_vote_27 : decode cX11_vote 27 = .ok (.iload 4, 2) := by decide +kernel
theorem dX11_vote_29 : decode cX11_vote 29 = .ok (.iconst 0, 1) := by decide +kernel
theorem dX11_vote_30 : decode cX11_vote 30 = .ok (.sipush 500, 3) := by decide +kernel
theorem dX11_vote_33 : decode cX11_vote 33 = .ok (.invokestatic 111, 3) := by decide +kernel
theorem dX11_vote_36 : decode cX11_vote 36 = .ok (.ifCond .eq 19, 3) := by decide +kernel
theorem dX11_vote_39 : decode cX11_vote 39 = .ok (.iload 5, 2) := by decide +kernel
theorem dX11_vote_41 : decode cX11_vote 41 = .ok (.iconst 0, 1) := by decide +kernel
theorem dX11_vote_42 : decode cX11_vote 42 = .ok (.sipush 500, 3) := by decide +kernel
theorem dX11_vote_45 : decode cX11_vote 45 = .ok (.invokestatic 111, 3) := by decide +kernel
theorem dX11_vote_48 : decode cX11_vote 48 = .ok (.ifCond .eq 7, 3) := by decide +kernel
theorem dX11_vote_51 : decode cX11_vote 51 = .ok (.iconst 1, 1) := by decide +kernel
theorem dX11_vote_52 : decode cX11_vote 52 = .ok (.goto 4, 3) := by decide +kernel
theorem dX11_vote_55 : decode cX11_vote 55 = .ok (.iconst 0, 1) := by decide +kernel
theorem dX11_vote_56 : decode cX11_vote 56 = .ok (.istore 7, 2) := by decide +kernel
theorem dX11_vote_58 : decode cX11_vote 58 = .ok (.iload 7, 2) := by decide +kernel
theorem dX11_vote_60 : decode cX11_vote 60 = .ok (.ifCond .eq 51, 3) := by decide +kernel
theorem dX11_vote_63 : decode cX11_vote 63 = .ok (.iload 6, 2) := by decide +kernel
theorem dX11_vote_65 : decode cX11_vote 65 = .ok (.ifCond .eq 46, 3) := by decide +kernel
theorem dX11_vote_68 : decode cX11_vote 68 = .ok (.iload_n 2, 1) := by decide +kernel
theorem dX11_vote_69 : decode cX11_vote 69 = .ok (.aload_n 0, 1) := by decide +kernel
theorem dX11_vote_70 : decode cX11_vote 70 = .ok (.getfield 53, 3) := by decide +kernel
theorem dX11_vote_73 : decode cX11_vote 73 = .ok (.iload_n 1, 1) := by decide +kernel
theorem dX11_vote_74 : decode cX11_vote 74 = .ok (.iaload, 1) := by decide +kernel
theorem dX11_vote_75 : decode cX11_vote 75 = .ok (.if_icmp .lt 36, 3) := by decide +kernel
theorem dX11_vote_78 : decode cX11_vote 78 = .ok (.iload_n 3, 1) := by decide +kernel
theorem dX11_vote_79 : decode cX11_vote 79 = .ok (.aload_n 0, 1) := by decide +kernel
theorem dX11_vote_80 : decode cX11_vote 80 = .ok (.getfield 56, 3) := by decide +kernel
theorem dX11_vote_83 : decode cX11_vote 83 = .ok (.iload_n 1, 1) := by decide +kernel
theorem dX11_vote_84 : decode cX11_vote 84 = .ok (.iaload, 1) := by decide +kernel
theorem dX11_vote_85 : decode cX11_vote 85 = .ok (.if_icmp .lt 26, 3) := by decide +kernel
theorem dX11_vote_88 : decode cX11_vote 88 = .ok (.iload 4, 2) := by decide +kernel
theorem dX11_vote_90 : decode cX11_vote 90 = .ok (.iload 5, 2) := by decide +kernel
theorem dX11_vote_92 : decode cX11_vote 92 = .ok (.iadd, 1) := by decide +kernel
theorem dX11_vote_93 : decode cX11_vote 93 = .ok (.aload_n 0, 1) := by decide +kernel
theorem dX11_vote_94 : decode cX11_vote 94 = .ok (.getfield 29, 3) := by decide +kernel
theorem dX11_vote_97 : decode cX11_vote 97 = .ok (.aload_n 0, 1) := by decide +kernel
theorem dX11_vote_98 : decode cX11_vote 98 = .ok (.getfield 41, 3) := by decide +kernel
theorem dX11_vote_101 : decode cX11_vote 101 = .ok (.iload_n 1, 1) := by decide +kernel
theorem dX11_vote_102 : decode cX11_vote 102 = .ok (.iaload, 1) := by decide +kernel
theorem dX11_vote_103 : decode cX11_vote 103 = .ok (.iaload, 1) := by decide +kernel
theorem dX11_vote_104 : decode cX11_vote 104 = .ok (.if_icmp .gt 7, 3) := by decide +kernel
theorem dX11_vote_107 : decode cX11_vote 107 = .ok (.iconst 1, 1) := by decide +kernel
theorem dX11_vote_108 : decode cX11_vote 108 = .ok (.goto 4, 3) := by decide +kernel
theorem dX11_vote_111 : decode cX11_vote 111 = .ok (.iconst 0, 1) := by decide +kernel
theorem dX11_vote_112 : decode cX11_vote 112 = .ok (.istore 7, 2) := by decide +kernel
theorem dX11_vote_114 : decode cX11_vote 114 = .ok (.aload_n 0, 1) := by decide +kernel
theorem dX11_vote_115 : decode cX11_vote 115 = .ok (.iload 6, 2) := by decide +kernel
theorem dX11_vote_117 : decode cX11_vote 117 = .ok (.ifCond .ne 7, 3) := by decide +kernel
theorem dX11_vote_120 : decode cX11_vote 120 = .ok (.iconst 1, 1) := by decide +kernel
theorem dX11_vote_121 : decode cX11_vote 121 = .ok (.goto 45, 3) := by decide +kernel
theorem dX11_vote_124 : decode cX11_vote 124 = .ok (.iload 7, 2) := by decide +kernel
theorem dX11_vote_126 : decode cX11_vote 126 = .ok (.ifCond .ne 7, 3) := by decide +kernel
theorem dX11_vote_129 : decode cX11_vote 129 = .ok (.iconst 2, 1) := by decide +kernel
theorem dX11_vote_130 : decode cX11_vote 130 = .ok (.goto 36, 3) := by decide +kernel
theorem dX11_vote_133 : decode cX11_vote 133 = .ok (.aload_n 0, 1) := by decide +kernel
theorem dX11_vote_134 : decode cX11_vote 134 = .ok (.iload_n 1, 1) := by decide +kernel
theorem dX11_vote_135 : decode cX11_vote 135 = .ok (.invokevirtual 154, 3) := by decide +kernel
theorem dX11_vote_138 : decode cX11_vote 138 = .ok (.ifCond .ne 23, 3) := by decide +kernel
theorem dX11_vote_141 : decode cX11_vote 141 = .ok (.iload_n 2, 1) := by decide +kernel
theorem dX11_vote_142 : decode cX11_vote 142 = .ok (.aload_n 0, 1) := by decide +kernel
theorem dX11_vote_143 : decode cX11_vote 143 = .ok (.getfield 53, 3) := by decide +kernel
theorem dX11_vote_146 : decode cX11_vote 146 = .ok (.iload_n 1, 1) := by decide +kernel
theorem dX11_vote_147 : decode cX11_vote 147 = .ok (.iaload, 1) := by decide +kernel
theorem dX11_vote_148 : decode cX11_vote 148 = .ok (.if_icmp .ne 17, 3) := by decide +kernel
theorem dX11_vote_151 : decode cX11_vote 151 = .ok (.iload_n 3, 1) := by decide +kernel
theorem dX11_vote_152 : decode cX11_vote 152 = .ok (.aload_n 0, 1) := by decide +kernel
theorem dX11_vote_153 : decode cX11_vote 153 = .ok (.getfield 56, 3) := by decide +kernel
theorem dX11_vote_156 : decode cX11_vote 156 = .ok (.iload_n 1, 1) := by decide +kernel
theorem dX11_vote_157 : decode cX11_vote 157 = .ok (.iaload, 1) := by decide +kernel
theorem dX11_vote_158 : decode cX11_vote 158 = .ok (.if_icmp .ne 7, 3) := by decide +kernel
theorem dX11_vote_161 : decode cX11_vote 161 = .ok (.iconst 3, 1) := by decide +kernel
theorem dX11_vote_162 : decode cX11_vote 162 = .ok (.goto 4, 3) := by decide +kernel
theorem dX11_vote_165 : decode cX11_vote 165 = .ok (.iconst 0, 1) := by decide +kernel
theorem dX11_vote_166 : decode cX11_vote 166 = .ok (.invokevirtual 128, 3) := by decide +kernel
theorem dX11_vote_169 : decode cX11_vote 169 = .ok (.ifCond .eq 5, 3) := by decide +kernel
theorem dX11_vote_172 : decode cX11_vote 172 = .ok (.iconst 0, 1) := by decide +kernel
theorem dX11_vote_173 : decode cX11_vote 173 = .ok (.ireturn, 1) := by decide +kernel
theorem dX11_vote_174 : decode cX11_vote 174 = .ok (.aload_n 0, 1) := by decide +kernel
theorem dX11_vote_175 : decode cX11_vote 175 = .ok (.getfield 41, 3) := by decide +kernel
theorem dX11_vote_178 : decode cX11_vote 178 = .ok (.iload_n 1, 1) := by decide +kernel
theorem dX11_vote_179 : decode cX11_vote 179 = .ok (.iaload, 1) := by decide +kernel
theorem dX11_vote_180 : decode cX11_vote 180 = .ok (.istore 8, 2) := by decide +kernel
theorem dX11_vote_182 : decode cX11_vote 182 = .ok (.iconst 2, 1) := by decide +kernel
theorem dX11_vote_183 : decode cX11_vote 183 = .ok (.iload_n 2, 1) := by decide +kernel
theorem dX11_vote_184 : decode cX11_vote 184 = .ok (.aload_n 0, 1) := by decide +kernel
theorem dX11_vote_185 : decode cX11_vote 185 = .ok (.getfield 53, 3) := by decide +kernel
theorem dX11_vote_188 : decode cX11_vote 188 = .ok (.iload_n 1, 1) := by decide +kernel
theorem dX11_vote_189 : decode cX11_vote 189 = .ok (.iaload, 1) := by decide +kernel
theorem dX11_vote_190 : decode cX11_vote 190 = .ok (.isub, 1) := by decide +kernel
theorem dX11_vote_191 : decode cX11_vote 191 = .ok (.imul, 1) := by decide +kernel
theorem dX11_vote_192 : decode cX11_vote 192 = .ok (.iconst 3, 1) := by decide +kernel
theorem dX11_vote_193 : decode cX11_vote 193 = .ok (.iload_n 3, 1) := by decide +kernel
theorem dX11_vote_194 : decode cX11_vote 194 = .ok (.aload_n 0, 1) := by decide +kernel
theorem dX11_vote_195 : decode cX11_vote 195 = .ok (.getfield 56, 3) := by decide +kernel
theorem dX11_vote_198 : decode cX11_vote 198 = .ok (.iload_n 1, 1) := by decide +kernel
theorem dX11_vote_199 : decode cX11_vote 199 = .ok (.iaload, 1) := by decide +kernel
theorem dX11_vote_200 : decode cX11_vote 200 = .ok (.isub, 1) := by decide +kernel
theorem dX11_vote_201 : decode cX11_vote 201 = .ok (.imul, 1) := by decide +kernel
theorem dX11_vote_202 : decode cX11_vote 202 = .ok (.iadd, 1) := by decide +kernel
theorem dX11_vote_203 : decode cX11_vote 203 = .ok (.istore 9, 2) := by decide +kernel
theorem dX11_vote_205 : decode cX11_vote 205 = .ok (.iload 9, 2) := by decide +kernel
theorem dX11_vote_207 : decode cX11_vote 207 = .ok (.iload 9, 2) := by decide +kernel
theorem dX11_vote_209 : decode cX11_vote 209 = .ok (.iconst 2, 1) := by decide +kernel
theorem dX11_vote_210 : decode cX11_vote 210 = .ok (.idiv, 1) := by decide +kernel
theorem dX11_vote_211 : decode cX11_vote 211 = .ok (.isub, 1) := by decide +kernel
theorem dX11_vote_212 : decode cX11_vote 212 = .ok (.istore 10, 2) := by decide +kernel
theorem dX11_vote_214 : decode cX11_vote 214 = .ok (.iload 4, 2) := by decide +kernel
theorem dX11_vote_216 : decode cX11_vote 216 = .ok (.iload 5, 2) := by decide +kernel
theorem dX11_vote_218 : decode cX11_vote 218 = .ok (.if_icmp .le 32, 3) := by decide +kernel
theorem dX11_vote_221 : decode cX11_vote 221 = .ok (.iconst 2, 1) := by decide +kernel
theorem dX11_vote_222 : decode cX11_vote 222 = .ok (.iload 4, 2) := by decide +kernel
theorem dX11_vote_224 : decode cX11_vote 224 = .ok (.iload 5, 2) := by decide +kernel
theorem dX11_vote_226 : decode cX11_vote 226 = .ok (.iadd, 1) := by decide +kernel
theorem dX11_vote_227 : decode cX11_vote 227 = .ok (.imul, 1) := by decide +kernel
theorem dX11_vote_228 : decode cX11_vote 228 = .ok (.aload_n 0, 1) := by decide +kernel
theorem dX11_vote_229 : decode cX11_vote 229 = .ok (.getfield 29, 3) := by decide +kernel
theorem dX11_vote_232 : decode cX11_vote 232 = .ok (.iload 8, 2) := by decide +kernel
theorem dX11_vote_234 : decode cX11_vote 234 = .ok (.iaload, 1) := by decide +kernel
theorem dX11_vote_235 : decode cX11_vote 235 = .ok (.if_icmp .lt 15, 3) := by decide +kernel
theorem dX11_vote_238 : decode cX11_vote 238 = .ok (.aload_n 0, 1) := by decide +kernel
theorem dX11_vote_239 : decode cX11_vote 239 = .ok (.getfield 32, 3) := by decide +kernel
theorem dX11_vote_242 : decode cX11_vote 242 = .ok (.iload 8, 2) := by decide +kernel
theorem dX11_vote_244 : decode cX11_vote 244 = .ok (.iaload, 1) := by decide +kernel
theorem dX11_vote_245 : decode cX11_vote 245 = .ok (.iload 10, 2) := by decide +kernel
theorem dX11_vote_247 : decode cX11_vote 247 = .ok (.if_icmp .ge 5, 3) := by decide +kernel
theorem dX11_vote_250 : decode cX11_vote 250 = .ok (.iconst (-1), 1) := by decide +kernel
theorem dX11_vote_251 : decode cX11_vote 251 = .ok (.ireturn, 1) := by decide +kernel
theorem dX11_vote_252 : decode cX11_vote 252 = .ok (.aload_n 0, 1) := by decide +kernel
theorem dX11_vote_253 : decode cX11_vote 253 = .ok (.getfield 53, 3) := by decide +kernel
theorem dX11_vote_256 : decode cX11_vote 256 = .ok (.iload_n 1, 1) := by decide +kernel
theorem dX11_vote_257 : decode cX11_vote 257 = .ok (.iload_n 2, 1) := by decide +kernel
theorem dX11_vote_258 : decode cX11_vote 258 = .ok (.iastore, 1) := by decide +kernel
theorem dX11_vote_259 : decode cX11_vote 259 = .ok (.aload_n 0, 1) := by decide +kernel
theorem dX11_vote_260 : decode cX11_vote 260 = .ok (.getfield 56, 3) := by decide +kernel
theorem dX11_vote_263 : decode cX11_vote 263 = .ok (.iload_n 1, 1) := by decide +kernel
theorem dX11_vote_264 : decode cX11_vote 264 = .ok (.iload_n 3, 1) := by decide +kernel
theorem dX11_vote_265 : decode cX11_vote 265 = .ok (.iastore, 1) := by decide +kernel
theorem dX11_vote_266 : decode cX11_vote 266 = .ok (.aload_n 0, 1) := by decide +kernel
theorem dX11_vote_267 : decode cX11_vote 267 = .ok (.getfield 32, 3) := by decide +kernel
theorem dX11_vote_270 : decode cX11_vote 270 = .ok (.iload 8, 2) := by decide +kernel
theorem dX11_vote_272 : decode cX11_vote 272 = .ok (.dup2, 1) := by decide +kernel
theorem dX11_vote_273 : decode cX11_vote 273 = .ok (.iaload, 1) := by decide +kernel
theorem dX11_vote_274 : decode cX11_vote 274 = .ok (.iload 10, 2) := by decide +kernel
theorem dX11_vote_276 : decode cX11_vote 276 = .ok (.isub, 1) := by decide +kernel
theorem dX11_vote_277 : decode cX11_vote 277 = .ok (.iastore, 1) := by decide +kernel
theorem dX11_vote_278 : decode cX11_vote 278 = .ok (.aload_n 0, 1) := by decide +kernel
theorem dX11_vote_279 : decode cX11_vote 279 = .ok (.getfield 71, 3) := by decide +kernel
theorem dX11_vote_282 : decode cX11_vote 282 = .ok (.iload_n 1, 1) := by decide +kernel
theorem dX11_vote_283 : decode cX11_vote 283 = .ok (.aload_n 0, 1) := by decide +kernel
theorem dX11_vote_284 : decode cX11_vote 284 = .ok (.getfield 137, 3) := by decide +kernel
theorem dX11_vote_287 : decode cX11_vote 287 = .ok (.sipush 8760, 3) := by decide +kernel
theorem dX11_vote_290 : decode cX11_vote 290 = .ok (.iadd, 1) := by decide +kernel
theorem dX11_vote_291 : decode cX11_vote 291 = .ok (.iastore, 1) := by decide +kernel
theorem dX11_vote_292 : decode cX11_vote 292 = .ok (.iload 10, 2) := by decide +kernel
theorem dX11_vote_294 : decode cX11_vote 294 = .ok (.ireturn, 1) := by decide +kernel
theorem dX11_isUnlawful_0 : decode cX11_isUnlawful 0 = .ok (.aload_n 0, 1) := by decide +kernel
theorem dX11_isUnlawful_1 : decode cX11_isUnlawful 1 = .ok (.getfield 13, 3) := by decide +kernel
theorem dX11_isUnlawful_4 : decode cX11_isUnlawful 4 = .ok (.aload_n 0, 1) := by decide +kernel
theorem dX11_isUnlawful_5 : decode cX11_isUnlawful 5 = .ok (.getfield 44, 3) := by decide +kernel
theorem dX11_isUnlawful_8 : decode cX11_isUnlawful 8 = .ok (.iload_n 1, 1) := by decide +kernel
theorem dX11_isUnlawful_9 : decode cX11_isUnlawful 9 = .ok (.iaload, 1) := by decide +kernel
theorem dX11_isUnlawful_10 : decode cX11_isUnlawful 10 = .ok (.iaload, 1) := by decide +kernel
theorem dX11_isUnlawful_11 : decode cX11_isUnlawful 11 = .ok (.istore_n 2, 1) := by decide +kernel
theorem dX11_isUnlawful_12 : decode cX11_isUnlawful 12 = .ok (.aload_n 0, 1) := by decide +kernel
theorem dX11_isUnlawful_13 : decode cX11_isUnlawful 13 = .ok (.getfield 65, 3) := by decide +kernel
theorem dX11_isUnlawful_16 : decode cX11_isUnlawful 16 = .ok (.iload_n 1, 1) := by decide +kernel
theorem dX11_isUnlawful_17 : decode cX11_isUnlawful 17 = .ok (.baload, 1) := by decide +kernel
theorem dX11_isUnlawful_18 : decode cX11_isUnlawful 18 = .ok (.ifCond .ne 37, 3) := by decide +kernel
theorem dX11_isUnlawful_21 : decode cX11_isUnlawful 21 = .ok (.aload_n 0, 1) := by decide +kernel
theorem dX11_isUnlawful_22 : decode cX11_isUnlawful 22 = .ok (.getfield 50, 3) := by decide +kernel
theorem dX11_isUnlawful_25 : decode cX11_isUnlawful 25 = .ok (.iload_n 1, 1) := by decide +kernel
theorem dX11_isUnlawful_26 : decode cX11_isUnlawful 26 = .ok (.iaload, 1) := by decide +kernel
theorem dX11_isUnlawful_27 : decode cX11_isUnlawful 27 = .ok (.aload_n 0, 1) := by decide +kernel
theorem dX11_isUnlawful_28 : decode cX11_isUnlawful 28 = .ok (.getfield 20, 3) := by decide +kernel
theorem dX11_isUnlawful_31 : decode cX11_isUnlawful 31 = .ok (.iload_n 2, 1) := by decide +kernel
theorem dX11_isUnlawful_32 : decode cX11_isUnlawful 32 = .ok (.iaload, 1) := by decide +kernel
theorem dX11_isUnlawful_33 : decode cX11_isUnlawful 33 = .ok (.if_icmp .gt 18, 3) := by decide +kernel
theorem dX11_isUnlawful_36 : decode cX11_isUnlawful 36 = .ok (.aload_n 0, 1) := by decide +kernel
theorem dX11_isUnlawful_37 : decode cX11_isUnlawful 37 = .ok (.getfield 53, 3) := by decide +kernel
theorem dX11_isUnlawful_40 : decode cX11_isUnlawful 40 = .ok (.iload_n 1, 1) := by decide +kernel
theorem dX11_isUnlawful_41 : decode cX11_isUnlawful 41 = .ok (.iaload, 1) := by decide +kernel
theorem dX11_isUnlawful_42 : decode cX11_isUnlawful 42 = .ok (.aload_n 0, 1) := by decide +kernel
theorem dX11_isUnlawful_43 : decode cX11_isUnlawful 43 = .ok (.getfield 23, 3) := by decide +kernel
theorem dX11_isUnlawful_46 : decode cX11_isUnlawful 46 = .ok (.iload_n 2, 1) := by decide +kernel
theorem dX11_isUnlawful_47 : decode cX11_isUnlawful 47 = .ok (.iaload, 1) := by decide +kernel
theorem dX11_isUnlawful_48 : decode cX11_isUnlawful 48 = .ok (.if_icmp .ge 7, 3) := by decide +kernel
theorem dX11_isUnlawful_51 : decode cX11_isUnlawful 51 = .ok (.iconst 1, 1) := by decide +kernel
theorem dX11_isUnlawful_52 : decode cX11_isUnlawful 52 = .ok (.goto 4, 3) := by decide +kernel
theorem dX11_isUnlawful_55 : decode cX11_isUnlawful 55 = .ok (.iconst 0, 1) := by decide +kernel
theorem dX11_isUnlawful_56 : decode cX11_isUnlawful 56 = .ok (.ireturn, 1) := by decide +kernel
theorem dX11_inspect_0 : decode cX11_inspect 0 = .ok (.aload_n 0, 1) := by decide +kernel
theorem dX11_inspect_1 : decode cX11_inspect 1 = .ok (.iload_n 1, 1) := by decide +kernel
theorem dX11_inspect_2 : decode cX11_inspect 2 = .ok (.invokestatic 131, 3) := by decide +kernel
theorem dX11_inspect_5 : decode cX11_inspect 5 = .ok (.ifCond .eq 7, 3) := by decide +kernel
theorem dX11_inspect_8 : decode cX11_inspect 8 = .ok (.iconst 0, 1) := by decide +kernel
theorem dX11_inspect_9 : decode cX11_inspect 9 = .ok (.goto 4, 3) := by decide +kernel
theorem dX11_inspect_12 : decode cX11_inspect 12 = .ok (.iconst 1, 1) := by decide +kernel
theorem dX11_inspect_13 : decode cX11_inspect 13 = .ok (.invokevirtual 128, 3) := by decide +kernel
theorem dX11_inspect_16 : decode cX11_inspect 16 = .ok (.ifCond .eq 5, 3) := by decide +kernel
theorem dX11_inspect_19 : decode cX11_inspect 19 = .ok (.iconst 0, 1) := by decide +kernel
theorem dX11_inspect_20 : decode cX11_inspect 20 = .ok (.ireturn, 1) := by decide +kernel
theorem dX11_inspect_21 : decode cX11_inspect 21 = .ok (.iconst 0, 1) := by decide +kernel
theorem dX11_inspect_22 : decode cX11_inspect 22 = .ok (.istore_n 2, 1) := by decide +kernel
theorem dX11_inspect_23 : decode cX11_inspect 23 = .ok (.iconst 0, 1) := by decide +kernel
theorem dX11_inspect_24 : decode cX11_inspect 24 = .ok (.istore_n 3, 1) := by decide +kernel
theorem dX11_inspect_25 : decode cX11_inspect 25 = .ok (.iload_n 3, 1) := by decide +kernel
theorem dX11_inspect_26 : decode cX11_inspect 26 = .ok (.aload_n 0, 1) := by decide +kernel
theorem dX11_inspect_27 : decode cX11_inspect 27 = .ok (.getfield 118, 3) := by decide +kernel
theorem dX11_inspect_30 : decode cX11_inspect 30 = .ok (.if_icmp .ge 94, 3) := by decide +kernel
theorem dX11_inspect_33 : decode cX11_inspect 33 = .ok (.aload_n 0, 1) := by decide +kernel
theorem dX11_inspect_34 : decode cX11_inspect 34 = .ok (.getfield 13, 3) := by decide +kernel
theorem dX11_inspect_37 : decode cX11_inspect 37 = .ok (.aload_n 0, 1) := by decide +kernel
theorem dX11_inspect_38 : decode cX11_inspect 38 = .ok (.getfield 44, 3) := by decide +kernel
theorem dX11_inspect_41 : decode cX11_inspect 41 = .ok (.iload_n 3, 1) := by decide +kernel
theorem dX11_inspect_42 : decode cX11_inspect 42 = .ok (.iaload, 1) := by decide +kernel
theorem dX11_inspect_43 : decode cX11_inspect 43 = .ok (.iaload, 1) := by decide +kernel
theorem dX11_inspect_44 : decode cX11_inspect 44 = .ok (.iload_n 1, 1) := by decide +kernel
theorem dX11_inspect_45 : decode cX11_inspect 45 = .ok (.if_icmp .ne 73, 3) := by decide +kernel
theorem dX11_inspect_48 : decode cX11_inspect 48 = .ok (.aload_n 0, 1) := by decide +kernel
theorem dX11_inspect_49 : decode cX11_inspect 49 = .ok (.iload_n 3, 1) := by decide +kernel
theorem dX11_inspect_50 : decode cX11_inspect 50 = .ok (.invokevirtual 157, 3) := by decide +kernel
theorem dX11_inspect_53 : decode cX11_inspect 53 = .ok (.ifCond .eq 65, 3) := by decide +kernel
theorem dX11_inspect_56 : decode cX11_inspect 56 = .ok (.aload_n 0, 1) := by decide +kernel
theorem dX11_inspect_57 : decode cX11_inspect 57 = .ok (.getfield 137, 3) := by decide +kernel
theorem dX11_inspect_60 : decode cX11_inspect 60 = .ok (.aload_n 0, 1) := by decide +kernel
theorem dX11_inspect_61 : decode cX11_inspect 61 = .ok (.getfield 74, 3) := by decide +kernel
theorem dX11_inspect_64 : decode cX11_inspect 64 = .ok (.iload_n 3, 1) := by decide +kernel
theorem dX11_inspect_65 : decode cX11_inspect 65 = .ok (.iaload, 1) := by decide +kernel
theorem dX11_inspect_66 : decode cX11_inspect 66 = .ok (.isub, 1) := by decide +kernel
theorem dX11_inspect_67 : decode cX11_inspect 67 = .ok (.sipush 720, 3) := by decide +kernel
theorem dX11_inspect_70 : decode cX11_inspect 70 = .ok (.if_icmp .lt 48, 3) := by decide +kernel
theorem dX11_inspect_73 : decode cX11_inspect 73 = .ok (.aload_n 0, 1) := by decide +kernel
theorem dX11_inspect_74 : decode cX11_inspect 74 = .ok (.getfield 32, 3) := by decide +kernel
theorem dX11_inspect_77 : decode cX11_inspect 77 = .ok (.aload_n 0, 1) := by decide +kernel
theorem dX11_inspect_78 : decode cX11_inspect 78 = .ok (.getfield 41, 3) := by decide +kernel
theorem dX11_inspect_81 : decode cX11_inspect 81 = .ok (.iload_n 3, 1) := by decide +kernel
theorem dX11_inspect_82 : decode cX11_inspect 82 = .ok (.iaload, 1) := by decide +kernel
theorem dX11_inspect_83 : decode cX11_inspect 83 = .ok (.dup2, 1) := by decide +kernel
theorem dX11_inspect_84 : decode cX11_inspect 84 = .ok (.iaload, 1) := by decide +kernel
theorem dX11_inspect_85 : decode cX11_inspect 85 = .ok (.bipush 10, 2) := by decide +kernel
theorem dX11_inspect_87 : decode cX11_inspect 87 = .ok (.isub, 1) := by decide +kernel
theorem dX11_inspect_88 : decode cX11_inspect 88 = .ok (.iastore, 1) := by decide +kernel
theorem dX11_inspect_89 : decode cX11_inspect 89 = .ok (.aload_n 0, 1) := by decide +kernel
theorem dX11_inspect_90 : decode cX11_inspect 90 = .ok (.getfield 35, 3) := by decide +kernel
theorem dX11_inspect_93 : decode cX11_inspect 93 = .ok (.aload_n 0, 1) := by decide +kernel
theorem dX11_inspect_94 : decode cX11_inspect 94 = .ok (.getfield 41, 3) := by decide +kernel
theorem dX11_inspect_97 : decode cX11_inspect 97 = .ok (.iload_n 3, 1) := by decide +kernel
theorem dX11_inspect_98 : decode cX11_inspect 98 = .ok (.iaload, 1) := by decide +kernel
theorem dX11_inspect_99 : decode cX11_inspect 99 = .ok (.dup2, 1) := by decide +kernel
theorem dX11_inspect_100 : decode cX11_inspect 100 = .ok (.iaload, 1) := by decide +kernel
theorem dX11_inspect_101 : decode cX11_inspect 101 = .ok (.bipush 10, 2) := by decide +kernel
theorem dX11_inspect_103 : decode cX11_inspect 103 = .ok (.iadd, 1) := by decide +kernel
theorem dX11_inspect_104 : decode cX11_inspect 104 = .ok (.iastore, 1) := by decide +kernel
theorem dX11_inspect_105 : decode cX11_inspect 105 = .ok (.aload_n 0, 1) := by decide +kernel
theorem dX11_inspect_106 : decode cX11_inspect 106 = .ok (.getfield 74, 3) := by decide +kernel
theorem dX11_inspect_109 : decode cX11_inspect 109 = .ok (.iload_n 3, 1) := by decide +kernel
theorem dX11_inspect_110 : decode cX11_inspect 110 = .ok (.aload_n 0, 1) := by decide +kernel
theorem dX11_inspect_111 : decode cX11_inspect 111 = .ok (.getfield 137, 3) := by decide +kernel
theorem dX11_inspect_114 : decode cX11_inspect 114 = .ok (.iastore, 1) := by decide +kernel
theorem dX11_inspect_115 : decode cX11_inspect 115 = .ok (.iinc 2 1, 3) := by decide +kernel
theorem dX11_inspect_118 : decode cX11_inspect 118 = .ok (.iinc 3 1, 3) := by decide +kernel
theorem dX11_inspect_121 : decode cX11_inspect 121 = .ok (.goto (-96), 3) := by decide +kernel
theorem dX11_inspect_124 : decode cX11_inspect 124 = .ok (.iload_n 2, 1) := by decide +kernel
theorem dX11_inspect_125 : decode cX11_inspect 125 = .ok (.ireturn, 1) := by decide +kernel
theorem dX11_light_0 : decode cX11_light 0 = .ok (.aload_n 0, 1) := by decide +kernel
theorem dX11_light_1 : decode cX11_light 1 = .ok (.getfield 68, 3) := by decide +kernel
theorem dX11_light_4 : decode cX11_light 4 = .ok (.iload_n 1, 1) := by decide +kernel
theorem dX11_light_5 : decode cX11_light 5 = .ok (.iaload, 1) := by decide +kernel
theorem dX11_light_6 : decode cX11_light 6 = .ok (.bipush 100, 2) := by decide +kernel
theorem dX11_light_8 : decode cX11_light 8 = .ok (.idiv, 1) := by decide +kernel
theorem dX11_light_9 : decode cX11_light 9 = .ok (.istore_n 2, 1) := by decide +kernel
theorem dX11_light_10 : decode cX11_light 10 = .ok (.aload_n 0, 1) := by decide +kernel
theorem dX11_light_11 : decode cX11_light 11 = .ok (.getfield 47, 3) := by decide +kernel
theorem dX11_light_14 : decode cX11_light 14 = .ok (.iload_n 1, 1) := by decide +kernel
theorem dX11_light_15 : decode cX11_light 15 = .ok (.iaload, 1) := by decide +kernel
theorem dX11_light_16 : decode cX11_light 16 = .ok (.bipush 100, 2) := by decide +kernel
theorem dX11_light_18 : decode cX11_light 18 = .ok (.iload_n 2, 1) := by decide +kernel
theorem dX11_light_19 : decode cX11_light 19 = .ok (.bipush 50, 2) := by decide +kernel
theorem dX11_light_21 : decode cX11_light 21 = .ok (.if_icmp .le 8, 3) := by decide +kernel
theorem dX11_light_24 : decode cX11_light 24 = .ok (.bipush 50, 2) := by decide +kernel
theorem dX11_light_26 : decode cX11_light 26 = .ok (.goto 4, 3) := by decide +kernel
theorem dX11_light_29 : decode cX11_light 29 = .ok (.iload_n 2, 1) := by decide +kernel
theorem dX11_light_30 : decode cX11_light 30 = .ok (.isub, 1) := by decide +kernel
theorem dX11_light_31 : decode cX11_light 31 = .ok (.imul, 1) := by decide +kernel
theorem dX11_light_32 : decode cX11_light 32 = .ok (.bipush 100, 2) := by decide +kernel
theorem dX11_light_34 : decode cX11_light 34 = .ok (.idiv, 1) := by decide +kernel
theorem dX11_light_35 : decode cX11_light 35 = .ok (.istore_n 3, 1) := by decide +kernel
theorem dX11_light_36 : decode cX11_light 36 = .ok (.iload_n 3, 1) := by decide +kernel
theorem dX11_light_37 : decode cX11_light 37 = .ok (.bipush 10, 2) := by decide +kernel
theorem dX11_light_39 : decode cX11_light 39 = .ok (.aload_n 0, 1) := by decide +kernel
theorem dX11_light_40 : decode cX11_light 40 = .ok (.getfield 56, 3) := by decide +kernel
theorem dX11_light_43 : decode cX11_light 43 = .ok (.iload_n 1, 1) := by decide +kernel
theorem dX11_light_44 : decode cX11_light 44 = .ok (.iaload, 1) := by decide +kernel
theorem dX11_light_45 : decode cX11_light 45 = .ok (.isub, 1) := by decide +kernel
theorem dX11_light_46 : decode cX11_light 46 = .ok (.imul, 1) := by decide +kernel
theorem dX11_light_47 : decode cX11_light 47 = .ok (.bipush 10, 2) := by decide +kernel
theorem dX11_light_49 : decode cX11_light 49 = .ok (.idiv, 1) := by decide +kernel
theorem dX11_light_50 : decode cX11_light 50 = .ok (.ireturn, 1) := by decide +kernel
theorem dX11_isShaded_0 : decode cX11_isShaded 0 = .ok (.aload_n 0, 1) := by decide +kernel
theorem dX11_isShaded_1 : decode cX11_isShaded 1 = .ok (.getfield 44, 3) := by decide +kernel
theorem dX11_isShaded_4 : decode cX11_isShaded 4 = .ok (.iload_n 1, 1) := by decide +kernel
theorem dX11_isShaded_5 : decode cX11_isShaded 5 = .ok (.iaload, 1) := by decide +kernel
theorem dX11_isShaded_6 : decode cX11_isShaded 6 = .ok (.bipush 8, 2) := by decide +kernel
theorem dX11_isShaded_8 : decode cX11_isShaded 8 = .ok (.irem, 1) := by decide +kernel
theorem dX11_isShaded_9 : decode cX11_isShaded 9 = .ok (.istore_n 3, 1) := by decide +kernel
theorem dX11_isShaded_10 : decode cX11_isShaded 10 = .ok (.aload_n 0, 1) := by decide +kernel
theorem dX11_isShaded_11 : decode cX11_isShaded 11 = .ok (.getfield 44, 3) := by decide +kernel
theorem dX11_isShaded_14 : decode cX11_isShaded 14 = .ok (.iload_n 1, 1) := by decide +kernel
theorem dX11_isShaded_15 : decode cX11_isShaded 15 = .ok (.iaload, 1) := by decide +kernel
theorem dX11_isShaded_16 : decode cX11_isShaded 16 = .ok (.bipush 8, 2) := by decide +kernel
theorem dX11_isShaded_18 : decode cX11_isShaded 18 = .ok (.idiv, 1) := by decide +kernel
theorem dX11_isShaded_19 : decode cX11_isShaded 19 = .ok (.istore 4, 2) := by decide +kernel
theorem dX11_isShaded_21 : decode cX11_isShaded 21 = .ok (.iload_n 2, 1) := by decide +kernel
theorem dX11_isShaded_22 : decode cX11_isShaded 22 = .ok (.bipush 8, 2) := by decide +kernel
theorem dX11_isShaded_24 : decode cX11_isShaded 24 = .ok (.irem, 1) := by decide +kernel
theorem dX11_isShaded_25 : decode cX11_isShaded 25 = .ok (.iload_n 3, 1) := by decide +kernel
theorem dX11_isShaded_26 : decode cX11_isShaded 26 = .ok (.isub, 1) := by decide +kernel
theorem dX11_isShaded_27 : decode cX11_isShaded 27 = .ok (.istore 5, 2) := by decide +kernel
theorem dX11_isShaded_29 : decode cX11_isShaded 29 = .ok (.iload_n 2, 1) := by decide +kernel
theorem dX11_isShaded_30 : decode cX11_isShaded 30 = .ok (.bipush 8, 2) := by decide +kernel
theorem dX11_isShaded_32 : decode cX11_isShaded 32 = .ok (.idiv, 1) := by decide +kernel
theorem dX11_isShaded_33 : decode cX11_isShaded 33 = .ok (.iload 4, 2) := by decide +kernel
theorem dX11_isShaded_35 : decode cX11_isShaded 35 = .ok (.isub, 1) := by decide +kernel
theorem dX11_isShaded_36 : decode cX11_isShaded 36 = .ok (.istore 6, 2) := by decide +kernel
theorem dX11_isShaded_38 : decode cX11_isShaded 38 = .ok (.iload 5, 2) := by decide +kernel
theorem dX11_isShaded_40 : decode cX11_isShaded 40 = .ok (.invokestatic 160, 3) := by decide +kernel
theorem dX11_isShaded_43 : decode cX11_isShaded 43 = .ok (.iload 6, 2) := by decide +kernel
theorem dX11_isShaded_45 : decode cX11_isShaded 45 = .ok (.invokestatic 160, 3) := by decide +kernel
theorem dX11_isShaded_48 : decode cX11_isShaded 48 = .ok (.if_icmp .le 11, 3) := by decide +kernel
theorem dX11_isShaded_51 : decode cX11_isShaded 51 = .ok (.iload 5, 2) := by decide +kernel
theorem dX11_isShaded_53 : decode cX11_isShaded 53 = .ok (.invokestatic 160, 3) := by decide +kernel
theorem dX11_isShaded_56 : decode cX11_isShaded 56 = .ok (.goto 8, 3) := by decide +kernel
theorem dX11_isShaded_59 : decode cX11_isShaded 59 = .ok (.iload 6, 2) := by decide +kernel
theorem dX11_isShaded_61 : decode cX11_isShaded 61 = .ok (.invokestatic 160, 3) := by decide +kernel
theorem dX11_isShaded_64 : decode cX11_isShaded 64 = .ok (.istore 7, 2) := by decide +kernel
theorem dX11_isShaded_66 : decode cX11_isShaded 66 = .ok (.iconst 0, 1) := by decide +kernel
theorem dX11_isShaded_67 : decode cX11_isShaded 67 = .ok (.istore 8, 2) := by decide +kernel
theorem dX11_isShaded_69 : decode cX11_isShaded 69 = .ok (.iconst 0, 1) := by decide +kernel
theorem dX11_isShaded_70 : decode cX11_isShaded 70 = .ok (.istore 9, 2) := by decide +kernel
theorem dX11_isShaded_72 : decode cX11_isShaded 72 = .ok (.iload 9, 2) := by decide +kernel
theorem dX11_isShaded_74 : decode cX11_isShaded 74 = .ok (.bipush 64, 2) := by decide +kernel
theorem dX11_isShaded_76 : decode cX11_isShaded 76 = .ok (.if_icmp .ge 122, 3) := by decide +kernel
theorem dX11_isShaded_79 : decode cX11_isShaded 79 = .ok (.iload 9, 2) := by decide +kernel
theorem dX11_isShaded_81 : decode cX11_isShaded 81 = .ok (.bipush 8, 2) := by decide +kernel
theorem dX11_isShaded_83 : decode cX11_isShaded 83 = .ok (.irem, 1) := by decide +kernel
theorem dX11_isShaded_84 : decode cX11_isShaded 84 = .ok (.iload_n 3, 1) := by decide +kernel
theorem dX11_isShaded_85 : decode cX11_isShaded 85 = .ok (.isub, 1) := by decide +kernel
theorem dX11_isShaded_86 : decode cX11_isShaded 86 = .ok (.istore 10, 2) := by decide +kernel
theorem dX11_isShaded_88 : decode cX11_isShaded 88 = .ok (.iload 9, 2) := by decide +kernel
theorem dX11_isShaded_90 : decode cX11_isShaded 90 = .ok (.bipush 8, 2) := by decide +kernel
theorem dX11_isShaded_92 : decode cX11_isShaded 92 = .ok (.idiv, 1) := by decide +kernel
theorem dX11_isShaded_93 : decode cX11_isShaded 93 = .ok (.iload 4, 2) := by decide +kernel
theorem dX11_isShaded_95 : decode cX11_isShaded 95 = .ok (.isub, 1) := by decide +kernel
theorem dX11_isShaded_96 : decode cX11_isShaded 96 = .ok (.istore 11, 2) := by decide +kernel
theorem dX11_isShaded_98 : decode cX11_isShaded 98 = .ok (.iload 10, 2) := by decide +kernel
