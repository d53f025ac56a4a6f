theorem d_mo_number_153 : decode (q_cc m_mo_number) 153 = .ok (.invokevirtual 215, 3) := by decide +kernel
theorem d_mo_number_156 : decode (q_cc m_mo_number) 156 = .ok (.iload 4, 2) := by decide +kernel
theorem d_mo_number_158 : decode (q_cc m_mo_number) 158 = .ok (.ireturn, 1) := by decide +kernel
theorem d_mo_isOwnHere_0 : decode (q_cc m_mo_isOwnHere) 0 = .ok (.aload_n 0, 1) := by decide +kernel
theorem d_mo_isOwnHere_1 : decode (q_cc m_mo_isOwnHere) 1 = .ok (.aload_n 0, 1) := by decide +kernel
theorem d_mo_isOwnHere_2 : decode (q_cc m_mo_isOwnHere) 2 = .ok (.getfield 17, 3) := by decide +kernel
theorem d_mo_isOwnHere_5 : decode (q_cc m_mo_isOwnHere) 5 = .ok (.invokevirtual 208, 3) := by decide +kernel
theorem d_mo_isOwnHere_8 : decode (q_cc m_mo_isOwnHere) 8 = .ok (.ifCond .ne 58, 3) := by decide +kernel
theorem d_mo_isOwnHere_11 : decode (q_cc m_mo_isOwnHere) 11 = .ok (.aload_n 0, 1) := by decide +kernel
theorem d_mo_isOwnHere_12 : decode (q_cc m_mo_isOwnHere) 12 = .ok (.aload_n 0, 1) := by decide +kernel
theorem d_mo_isOwnHere_13 : decode (q_cc m_mo_isOwnHere) 13 = .ok (.getfield 21, 3) := by decide +kernel
theorem d_mo_isOwnHere_16 : decode (q_cc m_mo_isOwnHere) 16 = .ok (.invokevirtual 208, 3) := by decide +kernel
theorem d_mo_isOwnHere_19 : decode (q_cc m_mo_isOwnHere) 19 = .ok (.ifCond .ne 47, 3) := by decide +kernel
theorem d_mo_isOwnHere_22 : decode (q_cc m_mo_isOwnHere) 22 = .ok (.aload_n 0, 1) := by decide +kernel
theorem d_mo_isOwnHere_23 : decode (q_cc m_mo_isOwnHere) 23 = .ok (.aload_n 0, 1) := by decide +kernel
theorem d_mo_isOwnHere_24 : decode (q_cc m_mo_isOwnHere) 24 = .ok (.getfield 24, 3) := by decide +kernel
theorem d_mo_isOwnHere_27 : decode (q_cc m_mo_isOwnHere) 27 = .ok (.invokevirtual 208, 3) := by decide +kernel
theorem d_mo_isOwnHere_30 : decode (q_cc m_mo_isOwnHere) 30 = .ok (.ifCond .ne 36, 3) := by decide +kernel
theorem d_mo_isOwnHere_33 : decode (q_cc m_mo_isOwnHere) 33 = .ok (.aload_n 0, 1) := by decide +kernel
theorem d_mo_isOwnHere_34 : decode (q_cc m_mo_isOwnHere) 34 = .ok (.aload_n 0, 1) := by decide +kernel
theorem d_mo_isOwnHere_35 : decode (q_cc m_mo_isOwnHere) 35 = .ok (.getfield 27, 3) := by decide +kernel
theorem d_mo_isOwnHere_38 : decode (q_cc m_mo_isOwnHere) 38 = .ok (.invokevirtual 208, 3) := by decide +kernel
theorem d_mo_isOwnHere_41 : decode (q_cc m_mo_isOwnHere) 41 = .ok (.ifCond .ne 25, 3) := by decide +kernel
theorem d_mo_isOwnHere_44 : decode (q_cc m_mo_isOwnHere) 44 = .ok (.aload_n 0, 1) := by decide +kernel
theorem d_mo_isOwnHere_45 : decode (q_cc m_mo_isOwnHere) 45 = .ok (.aload_n 0, 1) := by decide +kernel
theorem d_mo_isOwnHere_46 : decode (q_cc m_mo_isOwnHere) 46 = .ok (.getfield 30, 3) := by decide +kernel
theorem d_mo_isOwnHere_49 : decode (q_cc m_mo_isOwnHere) 49 = .ok (.invokevirtual 208, 3) := by decide +kernel
theorem d_mo_isOwnHere_52 : decode (q_cc m_mo_isOwnHere) 52 = .ok (.ifCond .ne 14, 3) := by decide +kernel
theorem d_mo_isOwnHere_55 : decode (q_cc m_mo_isOwnHere) 55 = .ok (.aload_n 0, 1) := by decide +kernel
theorem d_mo_isOwnHere_56 : decode (q_cc m_mo_isOwnHere) 56 = .ok (.aload_n 0, 1) := by decide +kernel
theorem d_mo_isOwnHere_57 : decode (q_cc m_mo_isOwnHere) 57 = .ok (.getfield 33, 3) := by decide +kernel
theorem d_mo_isOwnHere_60 : decode (q_cc m_mo_isOwnHere) 60 = .ok (.invokevirtual 208, 3) := by decide +kernel
theorem d_mo_isOwnHere_63 : decode (q_cc m_mo_isOwnHere) 63 = .ok (.ifCond .eq 7, 3) := by decide +kernel
theorem d_mo_isOwnHere_66 : decode (q_cc m_mo_isOwnHere) 66 = .ok (.iconst 1, 1) := by decide +kernel
theorem d_mo_isOwnHere_67 : decode (q_cc m_mo_isOwnHere) 67 = .ok (.goto 4, 3) := by decide +kernel
theorem d_mo_isOwnHere_70 : decode (q_cc m_mo_isOwnHere) 70 = .ok (.iconst 0, 1) := by decide +kernel
theorem d_mo_isOwnHere_71 : decode (q_cc m_mo_isOwnHere) 71 = .ok (.istore_n 1, 1) := by decide +kernel
theorem d_mo_isOwnHere_72 : decode (q_cc m_mo_isOwnHere) 72 = .ok (.iload_n 1, 1) := by decide +kernel
theorem d_mo_isOwnHere_73 : decode (q_cc m_mo_isOwnHere) 73 = .ok (.ifCond .ne 69, 3) := by decide +kernel
theorem d_mo_isOwnHere_76 : decode (q_cc m_mo_isOwnHere) 76 = .ok (.aload_n 0, 1) := by decide +kernel
theorem d_mo_isOwnHere_77 : decode (q_cc m_mo_isOwnHere) 77 = .ok (.aload_n 0, 1) := by decide +kernel
theorem d_mo_isOwnHere_78 : decode (q_cc m_mo_isOwnHere) 78 = .ok (.getfield 36, 3) := by decide +kernel
theorem d_mo_isOwnHere_81 : decode (q_cc m_mo_isOwnHere) 81 = .ok (.invokevirtual 208, 3) := by decide +kernel
theorem d_mo_isOwnHere_84 : decode (q_cc m_mo_isOwnHere) 84 = .ok (.ifCond .ne 58, 3) := by decide +kernel
theorem d_mo_isOwnHere_87 : decode (q_cc m_mo_isOwnHere) 87 = .ok (.aload_n 0, 1) := by decide +kernel
theorem d_mo_isOwnHere_88 : decode (q_cc m_mo_isOwnHere) 88 = .ok (.aload_n 0, 1) := by decide +kernel
theorem d_mo_isOwnHere_89 : decode (q_cc m_mo_isOwnHere) 89 = .ok (.getfield 39, 3) := by decide +kernel
theorem d_mo_isOwnHere_92 : decode (q_cc m_mo_isOwnHere) 92 = .ok (.invokevirtual 208, 3) := by decide +kernel
theorem d_mo_isOwnHere_95 : decode (q_cc m_mo_isOwnHere) 95 = .ok (.ifCond .ne 47, 3) := by decide +kernel
theorem d_mo_isOwnHere_98 : decode (q_cc m_mo_isOwnHere) 98 = .ok (.aload_n 0, 1) := by decide +kernel
theorem d_mo_isOwnHere_99 : decode (q_cc m_mo_isOwnHere) 99 = .ok (.aload_n 0, 1) := by decide +kernel
theorem d_mo_isOwnHere_100 : decode (q_cc m_mo_isOwnHere) 100 = .ok (.getfield 42, 3) := by decide +kernel
theorem d_mo_isOwnHere_103 : decode (q_cc m_mo_isOwnHere) 103 = .ok (.invokevirtual 208, 3) := by decide +kernel
theorem d_mo_isOwnHere_106 : decode (q_cc m_mo_isOwnHere) 106 = .ok (.ifCond .ne 36, 3) := by decide +kernel
theorem d_mo_isOwnHere_109 : decode (q_cc m_mo_isOwnHere) 109 = .ok (.aload_n 0, 1) := by decide +kernel
theorem d_mo_isOwnHere_110 : decode (q_cc m_mo_isOwnHere) 110 = .ok (.aload_n 0, 1) := by decide +kernel
theorem d_mo_isOwnHere_111 : decode (q_cc m_mo_isOwnHere) 111 = .ok (.getfield 45, 3) := by decide +kernel
theorem d_mo_isOwnHere_114 : decode (q_cc m_mo_isOwnHere) 114 = .ok (.invokevirtual 208, 3) := by decide +kernel
theorem d_mo_isOwnHere_117 : decode (q_cc m_mo_isOwnHere) 117 = .ok (.ifCond .ne 25, 3) := by decide +kernel
theorem d_mo_isOwnHere_120 : decode (q_cc m_mo_isOwnHere) 120 = .ok (.aload_n 0, 1) := by decide +kernel
theorem d_mo_isOwnHere_121 : decode (q_cc m_mo_isOwnHere) 121 = .ok (.aload_n 0, 1) := by decide +kernel
theorem d_mo_isOwnHere_122 : decode (q_cc m_mo_isOwnHere) 122 = .ok (.getfield 48, 3) := by decide +kernel
theorem d_mo_isOwnHere_125 : decode (q_cc m_mo_isOwnHere) 125 = .ok (.invokevirtual 208, 3) := by decide +kernel
theorem d_mo_isOwnHere_128 : decode (q_cc m_mo_isOwnHere) 128 = .ok (.ifCond .ne 14, 3) := by decide +kernel
theorem d_mo_isOwnHere_131 : decode (q_cc m_mo_isOwnHere) 131 = .ok (.aload_n 0, 1) := by decide +kernel
theorem d_mo_isOwnHere_132 : decode (q_cc m_mo_isOwnHere) 132 = .ok (.aload_n 0, 1) := by decide +kernel
theorem d_mo_isOwnHere_133 : decode (q_cc m_mo_isOwnHere) 133 = .ok (.getfield 51, 3) := by decide +kernel
theorem d_mo_isOwnHere_136 : decode (q_cc m_mo_isOwnHere) 136 = .ok (.invokevirtual 208, 3) := by decide +kernel
theorem d_mo_isOwnHere_139 : decode (q_cc m_mo_isOwnHere) 139 = .ok (.ifCond .eq 7, 3) := by decide +kernel
theorem d_mo_isOwnHere_142 : decode (q_cc m_mo_isOwnHere) 142 = .ok (.iconst 1, 1) := by decide +kernel
theorem d_mo_isOwnHere_143 : decode (q_cc m_mo_isOwnHere) 143 = .ok (.goto 4, 3) := by decide +kernel
theorem d_mo_isOwnHere_146 : decode (q_cc m_mo_isOwnHere) 146 = .ok (.iconst 0, 1) := by decide +kernel
theorem d_mo_isOwnHere_147 : decode (q_cc m_mo_isOwnHere) 147 = .ok (.istore_n 1, 1) := by decide +kernel
theorem d_mo_isOwnHere_148 : decode (q_cc m_mo_isOwnHere) 148 = .ok (.iload_n 1, 1) := by decide +kernel
theorem d_mo_isOwnHere_149 : decode (q_cc m_mo_isOwnHere) 149 = .ok (.ifCond .ne 69, 3) := by decide +kernel
theorem d_mo_isOwnHere_152 : decode (q_cc m_mo_isOwnHere) 152 = .ok (.aload_n 0, 1) := by decide +kernel
theorem d_mo_isOwnHere_153 : decode (q_cc m_mo_isOwnHere) 153 = .ok (.aload_n 0, 1) := by decide +kernel
theorem d_mo_isOwnHere_154 : decode (q_cc m_mo_isOwnHere) 154 = .ok (.getfield 54, 3) := by decide +kernel
theorem d_mo_isOwnHere_157 : decode (q_cc m_mo_isOwnHere) 157 = .ok (.invokevirtual 208, 3) := by decide +kernel
theorem d_mo_isOwnHere_160 : decode (q_cc m_mo_isOwnHere) 160 = .ok (.ifCond .ne 58, 3) := by decide +kernel
theorem d_mo_isOwnHere_163 : decode (q_cc m_mo_isOwnHere) 163 = .ok (.aload_n 0, 1) := by decide +kernel
theorem d_mo_isOwnHere_164 : decode (q_cc m_mo_isOwnHere) 164 = .ok (.aload_n 0, 1) := by decide +kernel
theorem d_mo_isOwnHere_165 : decode (q_cc m_mo_isOwnHere) 165 = .ok (.getfield 57, 3) := by decide +kernel
theorem d_mo_isOwnHere_168 : decode (q_cc m_mo_isOwnHere) 168 = .ok (.invokevirtual 208, 3) := by decide +kernel
theorem d_mo_isOwnHere_171 : decode (q_cc m_mo_isOwnHere) 171 = .ok (.ifCond .ne 47, 3) := by decide +kernel
theorem d_mo_isOwnHere_174 : decode (q_cc m_mo_isOwnHere) 174 = .ok (.aload_n 0, 1) := by decide +kernel
theorem d_mo_isOwnHere_175 : decode (q_cc m_mo_isOwnHere) 175 = .ok (.aload_n 0, 1) := by decide +kernel
theorem d_mo_isOwnHere_176 : decode (q_cc m_mo_isOwnHere) 176 = .ok (.getfield 60, 3) := by decide +kernel
theorem d_mo_isOwnHere_179 : decode (q_cc m_mo_isOwnHere) 179 = .ok (.invokevirtual 208, 3) := by decide +kernel
theorem d_mo_isOwnHere_182 : decode (q_cc m_mo_isOwnHere) 182 = .ok (.ifCond .ne 36, 3) := by decide +kernel
theorem d_mo_isOwnHere_185 : decode (q_cc m_mo_isOwnHere) 185 = .ok (.aload_n 0, 1) := by decide +kernel
theorem d_mo_isOwnHere_186 : decode (q_cc m_mo_isOwnHere) 186 = .ok (.aload_n 0, 1) := by decide +kernel
theorem d_mo_isOwnHere_187 : decode (q_cc m_mo_isOwnHere) 187 = .ok (.getfield 63, 3) := by decide +kernel
theorem d_mo_isOwnHere_190 : decode (q_cc m_mo_isOwnHere) 190 = .ok (.invokevirtual 208, 3) := by decide +kernel
theorem d_mo_isOwnHere_193 : decode (q_cc m_mo_isOwnHere) 193 = .ok (.ifCond .ne 25, 3) := by decide +kernel
theorem d_mo_isOwnHere_196 : decode (q_cc m_mo_isOwnHere) 196 = .ok (.aload_n 0, 1) := by decide +kernel
theorem d_mo_isOwnHere_197 : decode (q_cc m_mo_isOwnHere) 197 = .ok (.aload_n 0, 1) := by decide +kernel
theorem d_mo_isOwnHere_198 : decode (q_cc m_mo_isOwnHere) 198 = .ok (.getfield 66, 3) := by decide +kernel
theorem d_mo_isOwnHere_201 : decode (q_cc m_mo_isOwnHere) 201 = .ok (.invokevirtual 208, 3) := by decide +kernel
theorem d_mo_isOwnHere_204 : decode (q_cc m_mo_isOwnHere) 204 = .ok (.ifCond .ne 14, 3) := by decide +kernel
theorem d_mo_isOwnHere_207 : decode (q_cc m_mo_isOwnHere) 207 = .ok (.aload_n 0, 1) := by decide +kernel
theorem d_mo_isOwnHere_208 : decode (q_cc m_mo_isOwnHere) 208 = .ok (.aload_n 0, 1) := by decide +kernel
theorem d_mo_isOwnHere_209 : decode (q_cc m_mo_isOwnHere) 209 = .ok (.getfield 69, 3) := by decide +kernel
theorem d_mo_isOwnHere_212 : decode (q_cc m_mo_isOwnHere) 212 = .ok (.invokevirtual 208, 3) := by decide +kernel
theorem d_mo_isOwnHere_215 : decode (q_cc m_mo_isOwnHere) 215 = .ok (.ifCond .eq 7, 3) := by decide +kernel
theorem d_mo_isOwnHere_218 : decode (q_cc m_mo_isOwnHere) 218 = .ok (.iconst 1, 1) := by decide +kernel
theorem d_mo_isOwnHere_219 : decode (q_cc m_mo_isOwnHere) 219 = .ok (.goto 4, 3) := by decide +kernel
theorem d_mo_isOwnHere_222 : decode (q_cc m_mo_isOwnHere) 222 = .ok (.iconst 0, 1) := by decide +kernel
theorem d_mo_isOwnHere_223 : decode (q_cc m_mo_isOwnHere) 223 = .ok (.istore_n 1, 1) := by decide +kernel
theorem d_mo_isOwnHere_224 : decode (q_cc m_mo_isOwnHere) 224 = .ok (.iload_n 1, 1) := by decide +kernel
theorem d_mo_isOwnHere_225 : decode (q_cc m_mo_isOwnHere) 225 = .ok (.ifCond .ne 69, 3) := by decide +kernel
theorem d_mo_isOwnHere_228 : decode (q_cc m_mo_isOwnHere) 228 = .ok (.aload_n 0, 1) := by decide +kernel
theorem d_mo_isOwnHere_229 : decode (q_cc m_mo_isOwnHere) 229 = .ok (.aload_n 0, 1) := by decide +kernel
theorem d_mo_isOwnHere_230 : decode (q_cc m_mo_isOwnHere) 230 = .ok (.getfield 72, 3) := by decide +kernel
theorem d_mo_isOwnHere_233 : decode (q_cc m_mo_isOwnHere) 233 = .ok (.invokevirtual 208, 3) := by decide +kernel
theorem d_mo_isOwnHere_236 : decode (q_cc m_mo_isOwnHere) 236 = .ok (.ifCond .ne 58, 3) := by decide +kernel
theorem d_mo_isOwnHere_239 : decode (q_cc m_mo_isOwnHere) 239 = .ok (.aload_n 0, 1) := by decide +kernel
theorem d_mo_isOwnHere_240 : decode (q_cc m_mo_isOwnHere) 240 = .ok (.aload_n 0, 1) := by decide +kernel
theorem d_mo_isOwnHere_241 : decode (q_cc m_mo_isOwnHere) 241 = .ok (.getfield 75, 3) := by decide +kernel
theorem d_mo_isOwnHere_244 : decode (q_cc m_mo_isOwnHere) 244 = .ok (.invokevirtual 208, 3) := by decide +kernel
theorem d_mo_isOwnHere_247 : decode (q_cc m_mo_isOwnHere) 247 = .ok (.ifCond .ne 47, 3) := by decide +kernel
theorem d_mo_isOwnHere_250 : decode (q_cc m_mo_isOwnHere) 250 = .ok (.aload_n 0, 1) := by decide +kernel
theorem d_mo_isOwnHere_251 : decode (q_cc m_mo_isOwnHere) 251 = .ok (.aload_n 0, 1) := by decide +kernel
theorem d_mo_isOwnHere_252 : decode (q_cc m_mo_isOwnHere) 252 = .ok (.getfield 78, 3) := by decide +kernel
theorem d_mo_isOwnHere_255 : decode (q_cc m_mo_isOwnHere) 255 = .ok (.invokevirtual 208, 3) := by decide +kernel
theorem d_mo_isOwnHere_258 : decode (q_cc m_mo_isOwnHere) 258 = .ok (.ifCond .ne 36, 3) := by decide +kernel
theorem d_mo_isOwnHere_261 : decode (q_cc m_mo_isOwnHere) 261 = .ok (.aload_n 0, 1) := by decide +kernel
theorem d_mo_isOwnHere_262 : decode (q_cc m_mo_isOwnHere) 262 = .ok (.aload_n 0, 1) := by decide +kernel
theorem d_mo_isOwnHere_263 : decode (q_cc m_mo_isOwnHere) 263 = .ok (.getfield 81, 3) := by decide +kernel
theorem d_mo_isOwnHere_266 : decode (q_cc m_mo_isOwnHere) 266 = .ok (.invokevirtual 208, 3) := by decide +kernel
theorem d_mo_isOwnHere_269 : decode (q_cc m_mo_isOwnHere) 269 = .ok (.ifCond .ne 25, 3) := by decide +kernel
theorem d_mo_isOwnHere_272 : decode (q_cc m_mo_isOwnHere) 272 = .ok (.aload_n 0, 1) := by decide +kernel
theorem d_mo_isOwnHere_273 : decode (q_cc m_mo_isOwnHere) 273 = .ok (.aload_n 0, 1) := by decide +kernel
theorem d_mo_isOwnHere_274 : decode (q_cc m_mo_isOwnHere) 274 = .ok (.getfield 84, 3) := by decide +kernel
theorem d_mo_isOwnHere_277 : decode (q_cc m_mo_isOwnHere) 277 = .ok (.invokevirtual 208, 3) := by decide +kernel
theorem d_mo_isOwnHere_280 : decode (q_cc m_mo_isOwnHere) 280 = .ok (.ifCond .ne 14, 3) := by decide +kernel
theorem d_mo_isOwnHere_283 : decode (q_cc m_mo_isOwnHere) 283 = .ok (.aload_n 0, 1) := by decide +kernel
theorem d_mo_isOwnHere_284 : decode (q_cc m_mo_isOwnHere) 284 = .ok (.aload_n 0, 1) := by decide +kernel
theorem d_mo_isOwnHere_285 : decode (q_cc m_mo_isOwnHere) 285 = .ok (.getfield 87, 3) := by decide +kernel
theorem d_mo_isOwnHere_288 : decode (q_cc m_mo_isOwnHere) 288 = .ok (.invokevirtual 208, 3) := by decide +kernel
theorem d_mo_isOwnHere_291 : decode (q_cc m_mo_isOwnHere) 291 = .ok (.ifCond .eq 7, 3) := by decide +kernel
theorem d_mo_isOwnHere_294 : decode (q_cc m_mo_isOwnHere) 294 = .ok (.iconst 1, 1) := by decide +kernel
theorem d_mo_isOwnHere_295 : decode (q_cc m_mo_isOwnHere) 295 = .ok (.goto 4, 3) := by decide +kernel
theorem d_mo_isOwnHere_298 : decode (q_cc m_mo_isOwnHere) 298 = .ok (.iconst 0, 1) := by decide +kernel
theorem d_mo_isOwnHere_299 : decode (q_cc m_mo_isOwnHere) 299 = .ok (.istore_n 1, 1) := by decide +kernel
theorem d_mo_isOwnHere_300 : decode (q_cc m_mo_isOwnHere) 300 = .ok (.iload_n 1, 1) := by decide +kernel
theorem d_mo_isOwnHere_301 : decode (q_cc m_mo_isOwnHere) 301 = .ok (.ifCond .ne 14, 3) := by decide +kernel
theorem d_mo_isOwnHere_304 : decode (q_cc m_mo_isOwnHere) 304 = .ok (.aload_n 0, 1) := by decide +kernel
theorem d_mo_isOwnHere_305 : decode (q_cc m_mo_isOwnHere) 305 = .ok (.aload_n 0, 1) := by decide +kernel
theorem d_mo_isOwnHere_306 : decode (q_cc m_mo_isOwnHere) 306 = .ok (.getfield 90, 3) := by decide +kernel
theorem d_mo_isOwnHere_309 : decode (q_cc m_mo_isOwnHere) 309 = .ok (.invokevirtual 208, 3) := by decide +kernel
theorem d_mo_isOwnHere_312 : decode (q_cc m_mo_isOwnHere) 312 = .ok (.ifCond .eq 7, 3) := by decide +kernel
theorem d_mo_isOwnHere_315 : decode (q_cc m_mo_isOwnHere) 315 = .ok (.iconst 1, 1) := by decide +kernel
theorem d_mo_isOwnHere_316 : decode (q_cc m_mo_isOwnHere) 316 = .ok (.goto 4, 3) := by decide +kernel
theorem d_mo_isOwnHere_319 : decode (q_cc m_mo_isOwnHere) 319 = .ok (.iconst 0, 1) := by decide +kernel
theorem d_mo_isOwnHere_320 : decode (q_cc m_mo_isOwnHere) 320 = .ok (.istore_n 1, 1) := by decide +kernel
theorem d_mo_isOwnHere_321 : decode (q_cc m_mo_isOwnHere) 321 = .ok (.iload_n 1, 1) := by decide +kernel
theorem d_mo_isOwnHere_322 : decode (q_cc m_mo_isOwnHere) 322 = .ok (.ireturn, 1) := by decide +kernel
theorem d_mo_name_0 : decode (q_cc m_mo_name) 0 = .ok (.aload_n 0, 1) := by decide +kernel
theorem d_mo_name_1 : decode (q_cc m_mo_name) 1 = .ok (.getfield 185, 3) := by decide +kernel
theorem d_mo_name_4 : decode (q_cc m_mo_name) 4 = .ok (.ifCond .eq 5, 3) := by decide +kernel
theorem d_mo_name_7 : decode (q_cc m_mo_name) 7 = .ok (.lconst 0, 1) := by decide +kernel
theorem d_mo_name_8 : decode (q_cc m_mo_name) 8 = .ok (.lreturn, 1) := by decide +kernel
theorem d_mo_name_9 : decode (q_cc m_mo_name) 9 = .ok (.aload_n 0, 1) := by decide +kernel
theorem d_mo_name_10 : decode (q_cc m_mo_name) 10 = .ok (.invokevirtual 197, 3) := by decide +kernel
theorem d_mo_name_13 : decode (q_cc m_mo_name) 13 = .ok (.invokestatic 201, 3) := by decide +kernel
theorem d_mo_name_16 : decode (q_cc m_mo_name) 16 = .ok (.ifCond .eq 21, 3) := by decide +kernel
theorem d_mo_name_19 : decode (q_cc m_mo_name) 19 = .ok (.aload_n 0, 1) := by decide +kernel
theorem d_mo_name_20 : decode (q_cc m_mo_name) 20 = .ok (.getfield 191, 3) := by decide +kernel
theorem d_mo_name_23 : decode (q_cc m_mo_name) 23 = .ok (.aload_n 0, 1) := by decide +kernel
theorem d_mo_name_24 : decode (q_cc m_mo_name) 24 = .ok (.getfield 205, 3) := by decide +kernel
theorem d_mo_name_27 : decode (q_cc m_mo_name) 27 = .ok (.if_icmp .eq 10, 3) := by decide +kernel
theorem d_mo_name_30 : decode (q_cc m_mo_name) 30 = .ok (.aload_n 0, 1) := by decide +kernel
theorem d_mo_name_31 : decode (q_cc m_mo_name) 31 = .ok (.invokevirtual 229, 3) := by decide +kernel
theorem d_mo_name_34 : decode (q_cc m_mo_name) 34 = .ok (.ifCond .eq 14, 3) := by decide +kernel
theorem d_mo_name_37 : decode (q_cc m_mo_name) 37 = .ok (.aload_n 0, 1) := by decide +kernel
theorem d_mo_name_38 : decode (q_cc m_mo_name) 38 = .ok (.iconst 1, 1) := by decide +kernel
theorem d_mo_name_39 : decode (q_cc m_mo_name) 39 = .ok (.aload_n 0, 1) := by decide +kernel
theorem d_mo_name_40 : decode (q_cc m_mo_name) 40 = .ok (.getfield 191, 3) := by decide +kernel
theorem d_mo_name_43 : decode (q_cc m_mo_name) 43 = .ok (.invokevirtual 215, 3) := by decide +kernel
theorem d_mo_name_46 : decode (q_cc m_mo_name) 46 = .ok (.lconst 0, 1) := by decide +kernel
theorem d_mo_name_47 : decode (q_cc m_mo_name) 47 = .ok (.lreturn, 1) := by decide +kernel
theorem d_mo_name_48 : decode (q_cc m_mo_name) 48 = .ok (.aload_n 0, 1) := by decide +kernel
theorem d_mo_name_49 : decode (q_cc m_mo_name) 49 = .ok (.aload_n 0, 1) := by decide +kernel
theorem d_mo_name_50 : decode (q_cc m_mo_name) 50 = .ok (.getfield 191, 3) := by decide +kernel
theorem d_mo_name_53 : decode (q_cc m_mo_name) 53 = .ok (.putfield 233, 3) := by decide +kernel
theorem d_mo_name_56 : decode (q_cc m_mo_name) 56 = .ok (.lconst 0, 1) := by decide +kernel
theorem d_mo_name_57 : decode (q_cc m_mo_name) 57 = .ok (.lstore_n 1, 1) := by decide +kernel
theorem d_mo_name_58 : decode (q_cc m_mo_name) 58 = .ok (.aload_n 0, 1) := by decide +kernel
theorem d_mo_name_59 : decode (q_cc m_mo_name) 59 = .ok (.getfield 191, 3) := by decide +kernel
theorem d_mo_name_62 : decode (q_cc m_mo_name) 62 = .ok (.aload_n 0, 1) := by decide +kernel
theorem d_mo_name_63 : decode (q_cc m_mo_name) 63 = .ok (.getfield 194, 3) := by decide +kernel
theorem d_mo_name_66 : decode (q_cc m_mo_name) 66 = .ok (.if_icmp .ge 79, 3) := by decide +kernel
theorem d_mo_name_69 : decode (q_cc m_mo_name) 69 = .ok (.aload_n 0, 1) := by decide +kernel
theorem d_mo_name_70 : decode (q_cc m_mo_name) 70 = .ok (.getfield 7, 3) := by decide +kernel
theorem d_mo_name_73 : decode (q_cc m_mo_name) 73 = .ok (.aload_n 0, 1) := by decide +kernel
theorem d_mo_name_74 : decode (q_cc m_mo_name) 74 = .ok (.getfield 191, 3) := by decide +kernel
theorem d_mo_name_77 : decode (q_cc m_mo_name) 77 = .ok (.iaload, 1) := by decide +kernel
theorem d_mo_name_78 : decode (q_cc m_mo_name) 78 = .ok (.invokestatic 201, 3) := by decide +kernel
theorem d_mo_name_81 : decode (q_cc m_mo_name) 81 = .ok (.ifCond .eq 64, 3) := by decide +kernel
theorem d_mo_name_84 : decode (q_cc m_mo_name) 84 = .ok (.aload_n 0, 1) := by decide +kernel
theorem d_mo_name_85 : decode (q_cc m_mo_name) 85 = .ok (.getfield 191, 3) := by decide +kernel
theorem d_mo_name_88 : decode (q_cc m_mo_name) 88 = .ok (.aload_n 0, 1) := by decide +kernel
theorem d_mo_name_89 : decode (q_cc m_mo_name) 89 = .ok (.getfield 233, 3) := by decide +kernel
theorem d_mo_name_92 : decode (q_cc m_mo_name) 92 = .ok (.isub, 1) := by decide +kernel
theorem d_mo_name_93 : decode (q_cc m_mo_name) 93 = .ok (.bipush 6, 2) := by decide +kernel
theorem d_mo_name_95 : decode (q_cc m_mo_name) 95 = .ok (.if_icmp .ne 14, 3) := by decide +kernel
theorem d_mo_name_98 : decode (q_cc m_mo_name) 98 = .ok (.aload_n 0, 1) := by decide +kernel
theorem d_mo_name_99 : decode (q_cc m_mo_name) 99 = .ok (.iconst 1, 1) := by decide +kernel
theorem d_mo_name_100 : decode (q_cc m_mo_name) 100 = .ok (.aload_n 0, 1) := by decide +kernel
theorem d_mo_name_101 : decode (q_cc m_mo_name) 101 = .ok (.getfield 191, 3) := by decide +kernel
theorem d_mo_name_104 : decode (q_cc m_mo_name) 104 = .ok (.invokevirtual 215, 3) := by decide +kernel
theorem d_mo_name_107 : decode (q_cc m_mo_name) 107 = .ok (.lconst 0, 1) := by decide +kernel
theorem d_mo_name_108 : decode (q_cc m_mo_name) 108 = .ok (.lreturn, 1) := by decide +kernel
theorem d_mo_name_109 : decode (q_cc m_mo_name) 109 = .ok (.ldc2_w 236, 3) := by decide +kernel
theorem d_mo_name_112 : decode (q_cc m_mo_name) 112 = .ok (.lload_n 1, 1) := by decide +kernel
theorem d_mo_name_113 : decode (q_cc m_mo_name) 113 = .ok (.lmul, 1) := by decide +kernel
theorem d_mo_name_114 : decode (q_cc m_mo_name) 114 = .ok (.aload_n 0, 1) := by decide +kernel
theorem d_mo_name_115 : decode (q_cc m_mo_name) 115 = .ok (.getfield 7, 3) := by decide +kernel
theorem d_mo_name_118 : decode (q_cc m_mo_name) 118 = .ok (.aload_n 0, 1) := by decide +kernel
theorem d_mo_name_119 : decode (q_cc m_mo_name) 119 = .ok (.getfield 191, 3) := by decide +kernel
theorem d_mo_name_122 : decode (q_cc m_mo_name) 122 = .ok (.iaload, 1) := by decide +kernel
theorem d_mo_name_123 : decode (q_cc m_mo_name) 123 = .ok (.i2l, 1) := by decide +kernel
theorem d_mo_name_124 : decode (q_cc m_mo_name) 124 = .ok (.ladd, 1) := by decide +kernel
theorem d_mo_name_125 : decode (q_cc m_mo_name) 125 = .ok (.ldc2_w 238, 3) := by decide +kernel
theorem d_mo_name_128 : decode (q_cc m_mo_name) 128 = .ok (.lsub, 1) := by decide +kernel
theorem d_mo_name_129 : decode (q_cc m_mo_name) 129 = .ok (.lconst 1, 1) := by decide +kernel
theorem d_mo_name_130 : decode (q_cc m_mo_name) 130 = .ok (.ladd, 1) := by decide +kernel
theorem d_mo_name_131 : decode (q_cc m_mo_name) 131 = .ok (.lstore_n 1, 1) := by decide +kernel
theorem d_mo_name_132 : decode (q_cc m_mo_name) 132 = .ok (.aload_n 0, 1) := by decide +kernel
theorem d_mo_name_133 : decode (q_cc m_mo_name) 133 = .ok (.dup, 1) := by decide +kernel
theorem d_mo_name_134 : decode (q_cc m_mo_name) 134 = .ok (.getfield 191, 3) := by decide +kernel
theorem d_mo_name_137 : decode (q_cc m_mo_name) 137 = .ok (.iconst 1, 1) := by decide +kernel
theorem d_mo_name_138 : decode (q_cc m_mo_name) 138 = .ok (.iadd, 1) := by decide +kernel
theorem d_mo_name_139 : decode (q_cc m_mo_name) 139 = .ok (.putfield 191, 3) := by decide +kernel
theorem d_mo_name_142 : decode (q_cc m_mo_name) 142 = .ok (.goto (-84), 3) := by decide +kernel
theorem d_mo_name_145 : decode (q_cc m_mo_name) 145 = .ok (.aload_n 0, 1) := by decide +kernel
theorem d_mo_name_146 : decode (q_cc m_mo_name) 146 = .ok (.aload_n 0, 1) := by decide +kernel
theorem d_mo_name_147 : decode (q_cc m_mo_name) 147 = .ok (.getfield 191, 3) := by decide +kernel
theorem d_mo_name_150 : decode (q_cc m_mo_name) 150 = .ok (.putfield 205, 3) := by decide +kernel
theorem d_mo_name_153 : decode (q_cc m_mo_name) 153 = .ok (.lload_n 1, 1) := by decide +kernel
theorem d_mo_name_154 : decode (q_cc m_mo_name) 154 = .ok (.lreturn, 1) := by decide +kernel
theorem d_mo_isFull_0 : decode (q_cc m_mo_isFull) 0 = .ok (.aload_n 0, 1) := by decide +kernel
theorem d_mo_isFull_1 : decode (q_cc m_mo_isFull) 1 = .ok (.getfield 185, 3) := by decide +kernel
theorem d_mo_isFull_4 : decode (q_cc m_mo_isFull) 4 = .ok (.ifCond .ne 19, 3) := by decide +kernel
theorem d_mo_isFull_7 : decode (q_cc m_mo_isFull) 7 = .ok (.aload_n 0, 1) := by decide +kernel
theorem d_mo_isFull_8 : decode (q_cc m_mo_isFull) 8 = .ok (.getfield 93, 3) := by decide +kernel
theorem d_mo_isFull_11 : decode (q_cc m_mo_isFull) 11 = .ok (.iload_n 1, 1) := by decide +kernel
theorem d_mo_isFull_12 : decode (q_cc m_mo_isFull) 12 = .ok (.iaload, 1) := by decide +kernel
theorem d_mo_isFull_13 : decode (q_cc m_mo_isFull) 13 = .ok (.iload_n 2, 1) := by decide +kernel
theorem d_mo_isFull_14 : decode (q_cc m_mo_isFull) 14 = .ok (.if_icmp .ne 9, 3) := by decide +kernel
theorem d_mo_isFull_17 : decode (q_cc m_mo_isFull) 17 = .ok (.aload_n 0, 1) := by decide +kernel
theorem d_mo_isFull_18 : decode (q_cc m_mo_isFull) 18 = .ok (.iconst 5, 1) := by decide +kernel
theorem d_mo_isFull_19 : decode (q_cc m_mo_isFull) 19 = .ok (.iload_n 3, 1) := by decide +kernel
theorem d_mo_isFull_20 : decode (q_cc m_mo_isFull) 20 = .ok (.invokevirtual 215, 3) := by decide +kernel
theorem d_mo_isFull_23 : decode (q_cc m_mo_isFull) 23 = .ok (.aload_n 0, 1) := by decide +kernel
theorem d_mo_isFull_24 : decode (q_cc m_mo_isFull) 24 = .ok (.getfield 185, 3) := by decide +kernel
theorem d_mo_isFull_27 : decode (q_cc m_mo_isFull) 27 = .ok (.ifCond .eq 7, 3) := by decide +kernel
theorem d_mo_isFull_30 : decode (q_cc m_mo_isFull) 30 = .ok (.iconst 1, 1) := by decide +kernel
theorem d_mo_isFull_31 : decode (q_cc m_mo_isFull) 31 = .ok (.goto 4, 3) := by decide +kernel
theorem d_mo_isFull_34 : decode (q_cc m_mo_isFull) 34 = .ok (.iconst 0, 1) := by decide +kernel
theorem d_mo_isFull_35 : decode (q_cc m_mo_isFull) 35 = .ok (.ireturn, 1) := by decide +kernel
theorem d_mo_nameOf_0 : decode (q_cc m_mo_nameOf) 0 = .ok (.iconst 0, 1) := by decide +kernel
theorem d_mo_nameOf_1 : decode (q_cc m_mo_nameOf) 1 = .ok (.istore 4, 2) := by decide +kernel
theorem d_mo_nameOf_3 : decode (q_cc m_mo_nameOf) 3 = .ok (.iload 4, 2) := by decide +kernel
theorem d_mo_nameOf_5 : decode (q_cc m_mo_nameOf) 5 = .ok (.aload_n 0, 1) := by decide +kernel
theorem d_mo_nameOf_6 : decode (q_cc m_mo_nameOf) 6 = .ok (.getfield 93, 3) := by decide +kernel
theorem d_mo_nameOf_9 : decode (q_cc m_mo_nameOf) 9 = .ok (.iload_n 1, 1) := by decide +kernel
theorem d_mo_nameOf_10 : decode (q_cc m_mo_nameOf) 10 = .ok (.iaload, 1) := by decide +kernel
theorem d_mo_nameOf_11 : decode (q_cc m_mo_nameOf) 11 = .ok (.if_icmp .ge 29, 3) := by decide +kernel
theorem d_mo_nameOf_14 : decode (q_cc m_mo_nameOf) 14 = .ok (.aload_n 0, 1) := by decide +kernel
theorem d_mo_nameOf_15 : decode (q_cc m_mo_nameOf) 15 = .ok (.getfield 96, 3) := by decide +kernel
theorem d_mo_nameOf_18 : decode (q_cc m_mo_nameOf) 18 = .ok (.bipush 8, 2) := by decide +kernel
theorem d_mo_nameOf_20 : decode (q_cc m_mo_nameOf) 20 = .ok (.iload_n 1, 1) := by decide +kernel
theorem d_mo_nameOf_21 : decode (q_cc m_mo_nameOf) 21 = .ok (.imul, 1) := by decide +kernel
theorem d_mo_nameOf_22 : decode (q_cc m_mo_nameOf) 22 = .ok (.iload 4, 2) := by decide +kernel
theorem d_mo_nameOf_24 : decode (q_cc m_mo_nameOf) 24 = .ok (.iadd, 1) := by decide +kernel
theorem d_mo_nameOf_25 : decode (q_cc m_mo_nameOf) 25 = .ok (.laload, 1) := by decide +kernel
theorem d_mo_nameOf_26 : decode (q_cc m_mo_nameOf) 26 = .ok (.lload_n 2, 1) := by decide +kernel
theorem d_mo_nameOf_27 : decode (q_cc m_mo_nameOf) 27 = .ok (.lcmp, 1) := by decide +kernel
theorem d_mo_nameOf_28 : decode (q_cc m_mo_nameOf) 28 = .ok (.ifCond .ne 6, 3) := by decide +kernel
theorem d_mo_nameOf_31 : decode (q_cc m_mo_nameOf) 31 = .ok (.iload 4, 2) := by decide +kernel
theorem d_mo_nameOf_33 : decode (q_cc m_mo_nameOf) 33 = .ok (.ireturn, 1) := by decide +kernel
theorem d_mo_nameOf_34 : decode (q_cc m_mo_nameOf) 34 = .ok (.iinc 4 1, 3) := by decide +kernel
theorem d_mo_nameOf_37 : decode (q_cc m_mo_nameOf) 37 = .ok (.goto (-34), 3) := by decide +kernel
theorem d_mo_nameOf_40 : decode (q_cc m_mo_nameOf) 40 = .ok (.iconst (-1), 1) := by decide +kernel
theorem d_mo_nameOf_41 : decode (q_cc m_mo_nameOf) 41 = .ok (.ireturn, 1) := by decide +kernel
theorem d_mo_newName_0 : decode (q_cc m_mo_newName) 0 = .ok (.aload_n 0, 1) := by decide +kernel
theorem d_mo_newName_1 : decode (q_cc m_mo_newName) 1 = .ok (.invokevirtual 240, 3) := by decide +kernel
theorem d_mo_newName_4 : decode (q_cc m_mo_newName) 4 = .ok (.lstore_n 2, 1) := by decide +kernel
theorem d_mo_newName_5 : decode (q_cc m_mo_newName) 5 = .ok (.iconst 0, 1) := by decide +kernel
theorem d_mo_newName_6 : decode (q_cc m_mo_newName) 6 = .ok (.istore 4, 2) := by decide +kernel
theorem d_mo_newName_8 : decode (q_cc m_mo_newName) 8 = .ok (.iload 4, 2) := by decide +kernel
theorem d_mo_newName_10 : decode (q_cc m_mo_newName) 10 = .ok (.iconst 4, 1) := by decide +kernel
theorem d_mo_newName_11 : decode (q_cc m_mo_newName) 11 = .ok (.if_icmp .ge 36, 3) := by decide +kernel
theorem d_mo_newName_14 : decode (q_cc m_mo_newName) 14 = .ok (.aload_n 0, 1) := by decide +kernel
theorem d_mo_newName_15 : decode (q_cc m_mo_newName) 15 = .ok (.getfield 185, 3) := by decide +kernel
theorem d_mo_newName_18 : decode (q_cc m_mo_newName) 18 = .ok (.ifCond .ne 29, 3) := by decide +kernel
theorem d_mo_newName_21 : decode (q_cc m_mo_newName) 21 = .ok (.aload_n 0, 1) := by decide +kernel
theorem d_mo_newName_22 : decode (q_cc m_mo_newName) 22 = .ok (.iload 4, 2) := by decide +kernel
theorem d_mo_newName_24 : decode (q_cc m_mo_newName) 24 = .ok (.lload_n 2, 1) := by decide +kernel
theorem d_mo_newName_25 : decode (q_cc m_mo_newName) 25 = .ok (.invokevirtual 244, 3) := by decide +kernel
theorem d_mo_newName_28 : decode (q_cc m_mo_newName) 28 = .ok (.iconst (-1), 1) := by decide +kernel
theorem d_mo_newName_29 : decode (q_cc m_mo_newName) 29 = .ok (.if_icmp .eq 12, 3) := by decide +kernel
theorem d_mo_newName_32 : decode (q_cc m_mo_newName) 32 = .ok (.aload_n 0, 1) := by decide +kernel
theorem d_mo_newName_33 : decode (q_cc m_mo_newName) 33 = .ok (.iconst 3, 1) := by decide +kernel
theorem d_mo_newName_34 : decode (q_cc m_mo_newName) 34 = .ok (.aload_n 0, 1) := by decide +kernel
theorem d_mo_newName_35 : decode (q_cc m_mo_newName) 35 = .ok (.getfield 233, 3) := by decide +kernel
theorem d_mo_newName_38 : decode (q_cc m_mo_newName) 38 = .ok (.invokevirtual 215, 3) := by decide +kernel
theorem d_mo_newName_41 : decode (q_cc m_mo_newName) 41 = .ok (.iinc 4 1, 3) := by decide +kernel
theorem d_mo_newName_44 : decode (q_cc m_mo_newName) 44 = .ok (.goto (-36), 3) := by decide +kernel
theorem d_mo_newName_47 : decode (q_cc m_mo_newName) 47 = .ok (.aload_n 0, 1) := by decide +kernel
theorem d_mo_newName_48 : decode (q_cc m_mo_newName) 48 = .ok (.getfield 93, 3) := by decide +kernel
theorem d_mo_newName_51 : decode (q_cc m_mo_newName) 51 = .ok (.iload_n 1, 1) := by decide +kernel
theorem d_mo_newName_52 : decode (q_cc m_mo_newName) 52 = .ok (.iaload, 1) := by decide +kernel
theorem d_mo_newName_53 : decode (q_cc m_mo_newName) 53 = .ok (.istore 4, 2) := by decide +kernel
theorem d_mo_newName_55 : decode (q_cc m_mo_newName) 55 = .ok (.aload_n 0, 1) := by decide +kernel
theorem d_mo_newName_56 : decode (q_cc m_mo_newName) 56 = .ok (.getfield 185, 3) := by decide +kernel
theorem d_mo_newName_59 : decode (q_cc m_mo_newName) 59 = .ok (.ifCond .ne 16, 3) := by decide +kernel
theorem d_mo_newName_62 : decode (q_cc m_mo_newName) 62 = .ok (.aload_n 0, 1) := by decide +kernel
theorem d_mo_newName_63 : decode (q_cc m_mo_newName) 63 = .ok (.getfield 96, 3) := by decide +kernel
theorem d_mo_newName_66 : decode (q_cc m_mo_newName) 66 = .ok (.bipush 8, 2) := by decide +kernel
theorem d_mo_newName_68 : decode (q_cc m_mo_newName) 68 = .ok (.iload_n 1, 1) := by decide +kernel
theorem d_mo_newName_69 : decode (q_cc m_mo_newName) 69 = .ok (.imul, 1) := by decide +kernel
theorem d_mo_newName_70 : decode (q_cc m_mo_newName) 70 = .ok (.iload 4, 2) := by decide +kernel
theorem d_mo_newName_72 : decode (q_cc m_mo_newName) 72 = .ok (.iadd, 1) := by decide +kernel
theorem d_mo_newName_73 : decode (q_cc m_mo_newName) 73 = .ok (.lload_n 2, 1) := by decide +kernel
theorem d_mo_newName_74 : decode (q_cc m_mo_newName) 74 = .ok (.lastore, 1) := by decide +kernel
theorem d_mo_newName_75 : decode (q_cc m_mo_newName) 75 = .ok (.iload 4, 2) := by decide +kernel
theorem d_mo_newName_77 : decode (q_cc m_mo_newName) 77 = .ok (.ireturn, 1) := by decide +kernel
theorem d_mo_oneOf_0 : decode (q_cc m_mo_oneOf) 0 = .ok (.aload_n 0, 1) := by decide +kernel
theorem d_mo_oneOf_1 : decode (q_cc m_mo_oneOf) 1 = .ok (.invokevirtual 240, 3) := by decide +kernel
theorem d_mo_oneOf_4 : decode (q_cc m_mo_oneOf) 4 = .ok (.lstore_n 2, 1) := by decide +kernel
theorem d_mo_oneOf_5 : decode (q_cc m_mo_oneOf) 5 = .ok (.aload_n 0, 1) := by decide +kernel
theorem d_mo_oneOf_6 : decode (q_cc m_mo_oneOf) 6 = .ok (.iload_n 1, 1) := by decide +kernel
theorem d_mo_oneOf_7 : decode (q_cc m_mo_oneOf) 7 = .ok (.lload_n 2, 1) := by decide +kernel
theorem d_mo_oneOf_8 : decode (q_cc m_mo_oneOf) 8 = .ok (.invokevirtual 244, 3) := by decide +kernel
theorem d_mo_oneOf_11 : decode (q_cc m_mo_oneOf) 11 = .ok (.istore 4, 2) := by decide +kernel
theorem d_mo_oneOf_13 : decode (q_cc m_mo_oneOf) 13 = .ok (.aload_n 0, 1) := by decide +kernel
theorem d_mo_oneOf_14 : decode (q_cc m_mo_oneOf) 14 = .ok (.getfield 185, 3) := by decide +kernel
theorem d_mo_oneOf_17 : decode (q_cc m_mo_oneOf) 17 = .ok (.ifCond .ne 18, 3) := by decide +kernel
theorem d_mo_oneOf_20 : decode (q_cc m_mo_oneOf) 20 = .ok (.iload 4, 2) := by decide +kernel
theorem d_mo_oneOf_22 : decode (q_cc m_mo_oneOf) 22 = .ok (.iconst (-1), 1) := by decide +kernel
theorem d_mo_oneOf_23 : decode (q_cc m_mo_oneOf) 23 = .ok (.if_icmp .ne 12, 3) := by decide +kernel
theorem d_mo_oneOf_26 : decode (q_cc m_mo_oneOf) 26 = .ok (.aload_n 0, 1) := by decide +kernel
theorem d_mo_oneOf_27 : decode (q_cc m_mo_oneOf) 27 = .ok (.iconst 3, 1) := by decide +kernel
theorem d_mo_oneOf_28 : decode (q_cc m_mo_oneOf) 28 = .ok (.aload_n 0, 1) := by decide +kernel
theorem d_mo_oneOf_29 : decode (q_cc m_mo_oneOf) 29 = .ok (.getfield 233, 3) := by decide +kernel
theorem d_mo_oneOf_32 : decode (q_cc m_mo_oneOf) 32 = .ok (.invokevirtual 215, 3) := by decide +kernel
theorem d_mo_oneOf_35 : decode (q_cc m_mo_oneOf) 35 = .ok (.iload 4, 2) := by decide +kernel
theorem d_mo_oneOf_37 : decode (q_cc m_mo_oneOf) 37 = .ok (.iconst (-1), 1) := by decide +kernel
theorem d_mo_oneOf_38 : decode (q_cc m_mo_oneOf) 38 = .ok (.if_icmp .ne 7, 3) := by decide +kernel
theorem d_mo_oneOf_41 : decode (q_cc m_mo_oneOf) 41 = .ok (.iconst 0, 1) := by decide +kernel
theorem d_mo_oneOf_42 : decode (q_cc m_mo_oneOf) 42 = .ok (.goto 5, 3) := by decide +kernel
theorem d_mo_oneOf_45 : decode (q_cc m_mo_oneOf) 45 = .ok (.iload 4, 2) := by decide +kernel
theorem d_mo_oneOf_47 : decode (q_cc m_mo_oneOf) 47 = .ok (.ireturn, 1) := by decide +kernel
theorem d_mo_traitsTold_0 : decode (q_cc m_mo_traitsTold) 0 = .ok (.aload_n 0, 1) := by decide +kernel
theorem d_mo_traitsTold_1 : decode (q_cc m_mo_traitsTold) 1 = .ok (.aload_n 0, 1) := by decide +kernel
theorem d_mo_traitsTold_2 : decode (q_cc m_mo_traitsTold) 2 = .ok (.getfield 17, 3) := by decide +kernel
theorem d_mo_traitsTold_5 : decode (q_cc m_mo_traitsTold) 5 = .ok (.invokevirtual 248, 3) := by decide +kernel
theorem d_mo_traitsTold_8 : decode (q_cc m_mo_traitsTold) 8 = .ok (.iconst 1, 1) := by decide +kernel
theorem d_mo_traitsTold_9 : decode (q_cc m_mo_traitsTold) 9 = .ok (.istore_n 1, 1) := by decide +kernel
theorem d_mo_traitsTold_10 : decode (q_cc m_mo_traitsTold) 10 = .ok (.aload_n 0, 1) := by decide +kernel
theorem d_mo_traitsTold_11 : decode (q_cc m_mo_traitsTold) 11 = .ok (.getfield 185, 3) := by decide +kernel
theorem d_mo_traitsTold_14 : decode (q_cc m_mo_traitsTold) 14 = .ok (.ifCond .ne 95, 3) := by decide +kernel
theorem d_mo_traitsTold_17 : decode (q_cc m_mo_traitsTold) 17 = .ok (.iload_n 1, 1) := by decide +kernel
theorem d_mo_traitsTold_18 : decode (q_cc m_mo_traitsTold) 18 = .ok (.ifCond .eq 91, 3) := by decide +kernel
theorem d_mo_traitsTold_21 : decode (q_cc m_mo_traitsTold) 21 = .ok (.aload_n 0, 1) := by decide +kernel
theorem d_mo_traitsTold_22 : decode (q_cc m_mo_traitsTold) 22 = .ok (.iconst 0, 1) := by decide +kernel
theorem d_mo_traitsTold_23 : decode (q_cc m_mo_traitsTold) 23 = .ok (.invokevirtual 252, 3) := by decide +kernel
theorem d_mo_traitsTold_26 : decode (q_cc m_mo_traitsTold) 26 = .ok (.istore_n 2, 1) := by decide +kernel
theorem d_mo_traitsTold_27 : decode (q_cc m_mo_traitsTold) 27 = .ok (.aload_n 0, 1) := by decide +kernel
theorem d_mo_traitsTold_28 : decode (q_cc m_mo_traitsTold) 28 = .ok (.iconst 0, 1) := by decide +kernel
theorem d_mo_traitsTold_29 : decode (q_cc m_mo_traitsTold) 29 = .ok (.bipush 100, 2) := by decide +kernel
theorem d_mo_traitsTold_31 : decode (q_cc m_mo_traitsTold) 31 = .ok (.invokevirtual 256, 3) := by decide +kernel
theorem d_mo_traitsTold_34 : decode (q_cc m_mo_traitsTold) 34 = .ok (.istore_n 3, 1) := by decide +kernel
theorem d_mo_traitsTold_35 : decode (q_cc m_mo_traitsTold) 35 = .ok (.aload_n 0, 1) := by decide +kernel
theorem d_mo_traitsTold_36 : decode (q_cc m_mo_traitsTold) 36 = .ok (.iconst 0, 1) := by decide +kernel
theorem d_mo_traitsTold_37 : decode (q_cc m_mo_traitsTold) 37 = .ok (.bipush 100, 2) := by decide +kernel
theorem d_mo_traitsTold_39 : decode (q_cc m_mo_traitsTold) 39 = .ok (.invokevirtual 256, 3) := by decide +kernel
theorem d_mo_traitsTold_42 : decode (q_cc m_mo_traitsTold) 42 = .ok (.istore 4, 2) := by decide +kernel
theorem d_mo_traitsTold_44 : decode (q_cc m_mo_traitsTold) 44 = .ok (.aload_n 0, 1) := by decide +kernel
theorem d_mo_traitsTold_45 : decode (q_cc m_mo_traitsTold) 45 = .ok (.getfield 185, 3) := by decide +kernel
theorem d_mo_traitsTold_48 : decode (q_cc m_mo_traitsTold) 48 = .ok (.ifCond .eq 4, 3) := by decide +kernel
theorem d_mo_traitsTold_51 : decode (q_cc m_mo_traitsTold) 51 = .ok (.return_, 1) := by decide +kernel
theorem d_mo_traitsTold_52 : decode (q_cc m_mo_traitsTold) 52 = .ok (.aload_n 0, 1) := by decide +kernel
theorem d_mo_traitsTold_53 : decode (q_cc m_mo_traitsTold) 53 = .ok (.getfield 100, 3) := by decide +kernel
theorem d_mo_traitsTold_56 : decode (q_cc m_mo_traitsTold) 56 = .ok (.iload_n 2, 1) := by decide +kernel
theorem d_mo_traitsTold_57 : decode (q_cc m_mo_traitsTold) 57 = .ok (.iload_n 3, 1) := by decide +kernel
theorem d_mo_traitsTold_58 : decode (q_cc m_mo_traitsTold) 58 = .ok (.iastore, 1) := by decide +kernel
theorem d_mo_traitsTold_59 : decode (q_cc m_mo_traitsTold) 59 = .ok (.aload_n 0, 1) := by decide +kernel
theorem d_mo_traitsTold_60 : decode (q_cc m_mo_traitsTold) 60 = .ok (.getfield 100, 3) := by decide +kernel
theorem d_mo_traitsTold_63 : decode (q_cc m_mo_traitsTold) 63 = .ok (.bipush 6, 2) := by decide +kernel
theorem d_mo_traitsTold_65 : decode (q_cc m_mo_traitsTold) 65 = .ok (.iload_n 2, 1) := by decide +kernel
theorem d_mo_traitsTold_66 : decode (q_cc m_mo_traitsTold) 66 = .ok (.iadd, 1) := by decide +kernel
theorem d_mo_traitsTold_67 : decode (q_cc m_mo_traitsTold) 67 = .ok (.iload 4, 2) := by decide +kernel
theorem d_mo_traitsTold_69 : decode (q_cc m_mo_traitsTold) 69 = .ok (.iastore, 1) := by decide +kernel
theorem d_mo_traitsTold_70 : decode (q_cc m_mo_traitsTold) 70 = .ok (.aload_n 0, 1) := by decide +kernel
theorem d_mo_traitsTold_71 : decode (q_cc m_mo_traitsTold) 71 = .ok (.getfield 93, 3) := by decide +kernel
theorem d_mo_traitsTold_74 : decode (q_cc m_mo_traitsTold) 74 = .ok (.iconst 0, 1) := by decide +kernel
theorem d_mo_traitsTold_75 : decode (q_cc m_mo_traitsTold) 75 = .ok (.dup2, 1) := by decide +kernel
theorem d_mo_traitsTold_76 : decode (q_cc m_mo_traitsTold) 76 = .ok (.iaload, 1) := by decide +kernel
theorem d_mo_traitsTold_77 : decode (q_cc m_mo_traitsTold) 77 = .ok (.iconst 1, 1) := by decide +kernel
theorem d_mo_traitsTold_78 : decode (q_cc m_mo_traitsTold) 78 = .ok (.iadd, 1) := by decide +kernel
theorem d_mo_traitsTold_79 : decode (q_cc m_mo_traitsTold) 79 = .ok (.iastore, 1) := by decide +kernel
theorem d_mo_traitsTold_80 : decode (q_cc m_mo_traitsTold) 80 = .ok (.aload_n 0, 1) := by decide +kernel
theorem d_mo_traitsTold_81 : decode (q_cc m_mo_traitsTold) 81 = .ok (.getfield 93, 3) := by decide +kernel
theorem d_mo_traitsTold_84 : decode (q_cc m_mo_traitsTold) 84 = .ok (.iconst 0, 1) := by decide +kernel
theorem d_mo_traitsTold_85 : decode (q_cc m_mo_traitsTold) 85 = .ok (.iaload, 1) := by decide +kernel
theorem d_mo_traitsTold_86 : decode (q_cc m_mo_traitsTold) 86 = .ok (.bipush 6, 2) := by decide +kernel
theorem d_mo_traitsTold_88 : decode (q_cc m_mo_traitsTold) 88 = .ok (.if_icmp .ge 16, 3) := by decide +kernel
theorem d_mo_traitsTold_91 : decode (q_cc m_mo_traitsTold) 91 = .ok (.aload_n 0, 1) := by decide +kernel
theorem d_mo_traitsTold_92 : decode (q_cc m_mo_traitsTold) 92 = .ok (.bipush 44, 2) := by decide +kernel
theorem d_mo_traitsTold_94 : decode (q_cc m_mo_traitsTold) 94 = .ok (.invokevirtual 219, 3) := by decide +kernel
theorem d_mo_traitsTold_97 : decode (q_cc m_mo_traitsTold) 97 = .ok (.ifCond .eq 7, 3) := by decide +kernel
theorem d_mo_traitsTold_100 : decode (q_cc m_mo_traitsTold) 100 = .ok (.iconst 1, 1) := by decide +kernel
theorem d_mo_traitsTold_101 : decode (q_cc m_mo_traitsTold) 101 = .ok (.goto 4, 3) := by decide +kernel
theorem d_mo_traitsTold_104 : decode (q_cc m_mo_traitsTold) 104 = .ok (.iconst 0, 1) := by decide +kernel
theorem d_mo_traitsTold_105 : decode (q_cc m_mo_traitsTold) 105 = .ok (.istore_n 1, 1) := by decide +kernel
theorem d_mo_traitsTold_106 : decode (q_cc m_mo_traitsTold) 106 = .ok (.goto (-96), 3) := by decide +kernel
theorem d_mo_traitsTold_109 : decode (q_cc m_mo_traitsTold) 109 = .ok (.aload_n 0, 1) := by decide +kernel
theorem d_mo_traitsTold_110 : decode (q_cc m_mo_traitsTold) 110 = .ok (.bipush 59, 2) := by decide +kernel
theorem d_mo_traitsTold_112 : decode (q_cc m_mo_traitsTold) 112 = .ok (.invokevirtual 260, 3) := by decide +kernel
theorem d_mo_traitsTold_115 : decode (q_cc m_mo_traitsTold) 115 = .ok (.aload_n 0, 1) := by decide +kernel
theorem d_mo_traitsTold_116 : decode (q_cc m_mo_traitsTold) 116 = .ok (.iconst 1, 1) := by decide +kernel
theorem d_mo_traitsTold_117 : decode (q_cc m_mo_traitsTold) 117 = .ok (.putfield 264, 3) := by decide +kernel
theorem d_mo_traitsTold_120 : decode (q_cc m_mo_traitsTold) 120 = .ok (.return_, 1) := by decide +kernel
theorem d_mo_personTold_0 : decode (q_cc m_mo_personTold) 0 = .ok (.aload_n 0, 1) := by decide +kernel
theorem d_mo_personTold_1 : decode (q_cc m_mo_personTold) 1 = .ok (.iconst 1, 1) := by decide +kernel
theorem d_mo_personTold_2 : decode (q_cc m_mo_personTold) 2 = .ok (.bipush 8, 2) := by decide +kernel
theorem d_mo_personTold_4 : decode (q_cc m_mo_personTold) 4 = .ok (.iload_n 1, 1) := by decide +kernel
theorem d_mo_personTold_5 : decode (q_cc m_mo_personTold) 5 = .ok (.invokevirtual 267, 3) := by decide +kernel
theorem d_mo_personTold_8 : decode (q_cc m_mo_personTold) 8 = .ok (.ifCond .eq 4, 3) := by decide +kernel
theorem d_mo_personTold_11 : decode (q_cc m_mo_personTold) 11 = .ok (.return_, 1) := by decide +kernel
theorem d_mo_personTold_12 : decode (q_cc m_mo_personTold) 12 = .ok (.aload_n 0, 1) := by decide +kernel
theorem d_mo_personTold_13 : decode (q_cc m_mo_personTold) 13 = .ok (.iconst 1, 1) := by decide +kernel
theorem d_mo_personTold_14 : decode (q_cc m_mo_personTold) 14 = .ok (.invokevirtual 252, 3) := by decide +kernel
theorem d_mo_personTold_17 : decode (q_cc m_mo_personTold) 17 = .ok (.istore_n 2, 1) := by decide +kernel
theorem d_mo_personTold_18 : decode (q_cc m_mo_personTold) 18 = .ok (.iconst 0, 1) := by decide +kernel
theorem d_mo_personTold_19 : decode (q_cc m_mo_personTold) 19 = .ok (.istore_n 3, 1) := by decide +kernel
theorem d_mo_personTold_20 : decode (q_cc m_mo_personTold) 20 = .ok (.iload_n 3, 1) := by decide +kernel
theorem d_mo_personTold_21 : decode (q_cc m_mo_personTold) 21 = .ok (.aload_n 0, 1) := by decide +kernel
theorem d_mo_personTold_22 : decode (q_cc m_mo_personTold) 22 = .ok (.getfield 93, 3) := by decide +kernel
theorem d_mo_personTold_25 : decode (q_cc m_mo_personTold) 25 = .ok (.iconst 0, 1) := by decide +kernel
theorem d_mo_personTold_26 : decode (q_cc m_mo_personTold) 26 = .ok (.iaload, 1) := by decide +kernel
theorem d_mo_personTold_27 : decode (q_cc m_mo_personTold) 27 = .ok (.if_icmp .ge 27, 3) := by decide +kernel
theorem d_mo_personTold_30 : decode (q_cc m_mo_personTold) 30 = .ok (.aload_n 0, 1) := by decide +kernel
theorem d_mo_personTold_31 : decode (q_cc m_mo_personTold) 31 = .ok (.getfield 103, 3) := by decide +kernel
theorem d_mo_personTold_34 : decode (q_cc m_mo_personTold) 34 = .ok (.bipush 6, 2) := by decide +kernel
theorem d_mo_personTold_36 : decode (q_cc m_mo_personTold) 36 = .ok (.iload_n 2, 1) := by decide +kernel
theorem d_mo_personTold_37 : decode (q_cc m_mo_personTold) 37 = .ok (.imul, 1) := by decide +kernel
theorem d_mo_personTold_38 : decode (q_cc m_mo_personTold) 38 = .ok (.iload_n 3, 1) := by decide +kernel
theorem d_mo_personTold_39 : decode (q_cc m_mo_personTold) 39 = .ok (.iadd, 1) := by decide +kernel
theorem d_mo_personTold_40 : decode (q_cc m_mo_personTold) 40 = .ok (.aload_n 0, 1) := by decide +kernel
theorem d_mo_personTold_41 : decode (q_cc m_mo_personTold) 41 = .ok (.iconst 0, 1) := by decide +kernel
theorem d_mo_personTold_42 : decode (q_cc m_mo_personTold) 42 = .ok (.bipush 9, 2) := by decide +kernel
theorem d_mo_personTold_44 : decode (q_cc m_mo_personTold) 44 = .ok (.invokevirtual 256, 3) := by decide +kernel
theorem d_mo_personTold_47 : decode (q_cc m_mo_personTold) 47 = .ok (.iastore, 1) := by decide +kernel
theorem d_mo_personTold_48 : decode (q_cc m_mo_personTold) 48 = .ok (.iinc 3 1, 3) := by decide +kernel
theorem d_mo_personTold_51 : decode (q_cc m_mo_personTold) 51 = .ok (.goto (-31), 3) := by decide +kernel
theorem d_mo_personTold_54 : decode (q_cc m_mo_personTold) 54 = .ok (.aload_n 0, 1) := by decide +kernel
theorem d_mo_personTold_55 : decode (q_cc m_mo_personTold) 55 = .ok (.getfield 185, 3) := by decide +kernel
theorem d_mo_personTold_58 : decode (q_cc m_mo_personTold) 58 = .ok (.ifCond .ne 13, 3) := by decide +kernel
theorem d_mo_personTold_61 : decode (q_cc m_mo_personTold) 61 = .ok (.aload_n 0, 1) := by decide +kernel
theorem d_mo_personTold_62 : decode (q_cc m_mo_personTold) 62 = .ok (.getfield 93, 3) := by decide +kernel
theorem d_mo_personTold_65 : decode (q_cc m_mo_personTold) 65 = .ok (.iconst 1, 1) := by decide +kernel
theorem d_mo_personTold_66 : decode (q_cc m_mo_personTold) 66 = .ok (.dup2, 1) := by decide +kernel
theorem d_mo_personTold_67 : decode (q_cc m_mo_personTold) 67 = .ok (.iaload, 1) := by decide +kernel
theorem d_mo_personTold_68 : decode (q_cc m_mo_personTold) 68 = .ok (.iconst 1, 1) := by decide +kernel
theorem d_mo_personTold_69 : decode (q_cc m_mo_personTold) 69 = .ok (.iadd, 1) := by decide +kernel
theorem d_mo_personTold_70 : decode (q_cc m_mo_personTold) 70 = .ok (.iastore, 1) := by decide +kernel
theorem d_mo_personTold_71 : decode (q_cc m_mo_personTold) 71 = .ok (.return_, 1) := by decide +kernel
theorem d_mo_shadeTold_0 : decode (q_cc m_mo_shadeTold) 0 = .ok (.aload_n 0, 1) := by decide +kernel
theorem d_mo_shadeTold_1 : decode (q_cc m_mo_shadeTold) 1 = .ok (.iconst 2, 1) := by decide +kernel
theorem d_mo_shadeTold_2 : decode (q_cc m_mo_shadeTold) 2 = .ok (.iconst 5, 1) := by decide +kernel
theorem d_mo_shadeTold_3 : decode (q_cc m_mo_shadeTold) 3 = .ok (.iload_n 1, 1) := by decide +kernel
theorem d_mo_shadeTold_4 : decode (q_cc m_mo_shadeTold) 4 = .ok (.invokevirtual 267, 3) := by decide +kernel
theorem d_mo_shadeTold_7 : decode (q_cc m_mo_shadeTold) 7 = .ok (.ifCond .eq 4, 3) := by decide +kernel
theorem d_mo_shadeTold_10 : decode (q_cc m_mo_shadeTold) 10 = .ok (.return_, 1) := by decide +kernel
theorem d_mo_shadeTold_11 : decode (q_cc m_mo_shadeTold) 11 = .ok (.aload_n 0, 1) := by decide +kernel
theorem d_mo_shadeTold_12 : decode (q_cc m_mo_shadeTold) 12 = .ok (.iconst 2, 1) := by decide +kernel
theorem d_mo_shadeTold_13 : decode (q_cc m_mo_shadeTold) 13 = .ok (.invokevirtual 252, 3) := by decide +kernel
theorem d_mo_shadeTold_16 : decode (q_cc m_mo_shadeTold) 16 = .ok (.istore_n 2, 1) := by decide +kernel
theorem d_mo_shadeTold_17 : decode (q_cc m_mo_shadeTold) 17 = .ok (.aload_n 0, 1) := by decide +kernel
theorem d_mo_shadeTold_18 : decode (q_cc m_mo_shadeTold) 18 = .ok (.aload_n 0, 1) := by decide +kernel
theorem d_mo_shadeTold_19 : decode (q_cc m_mo_shadeTold) 19 = .ok (.getfield 27, 3) := by decide +kernel
theorem d_mo_shadeTold_22 : decode (q_cc m_mo_shadeTold) 22 = .ok (.invokevirtual 248, 3) := by decide +kernel
theorem d_mo_shadeTold_25 : decode (q_cc m_mo_shadeTold) 25 = .ok (.aload_n 0, 1) := by decide +kernel
theorem d_mo_shadeTold_26 : decode (q_cc m_mo_shadeTold) 26 = .ok (.iconst 1, 1) := by decide +kernel
theorem d_mo_shadeTold_27 : decode (q_cc m_mo_shadeTold) 27 = .ok (.bipush 99, 2) := by decide +kernel
theorem d_mo_shadeTold_29 : decode (q_cc m_mo_shadeTold) 29 = .ok (.invokevirtual 256, 3) := by decide +kernel
theorem d_mo_shadeTold_32 : decode (q_cc m_mo_shadeTold) 32 = .ok (.istore_n 3, 1) := by decide +kernel
theorem d_mo_shadeTold_33 : decode (q_cc m_mo_shadeTold) 33 = .ok (.aload_n 0, 1) := by decide +kernel
theorem d_mo_shadeTold_34 : decode (q_cc m_mo_shadeTold) 34 = .ok (.getfield 185, 3) := by decide +kernel
theorem d_mo_shadeTold_37 : decode (q_cc m_mo_shadeTold) 37 = .ok (.ifCond .eq 4, 3) := by decide +kernel
theorem d_mo_shadeTold_40 : decode (q_cc m_mo_shadeTold) 40 = .ok (.return_, 1) := by decide +kernel
theorem d_mo_shadeTold_41 : decode (q_cc m_mo_shadeTold) 41 = .ok (.aload_n 0, 1) := by decide +kernel
theorem d_mo_shadeTold_42 : decode (q_cc m_mo_shadeTold) 42 = .ok (.getfield 112, 3) := by decide +kernel
theorem d_mo_shadeTold_45 : decode (q_cc m_mo_shadeTold) 45 = .ok (.iload_n 2, 1) := by decide +kernel
theorem d_mo_shadeTold_46 : decode (q_cc m_mo_shadeTold) 46 = .ok (.iload_n 3, 1) := by decide +kernel
theorem d_mo_shadeTold_47 : decode (q_cc m_mo_shadeTold) 47 = .ok (.iastore, 1) := by decide +kernel
theorem d_mo_shadeTold_48 : decode (q_cc m_mo_shadeTold) 48 = .ok (.iconst 0, 1) := by decide +kernel
theorem d_mo_shadeTold_49 : decode (q_cc m_mo_shadeTold) 49 = .ok (.istore 4, 2) := by decide +kernel
theorem d_mo_shadeTold_51 : decode (q_cc m_mo_shadeTold) 51 = .ok (.iload 4, 2) := by decide +kernel
theorem d_mo_shadeTold_53 : decode (q_cc m_mo_shadeTold) 53 = .ok (.aload_n 0, 1) := by decide +kernel
theorem d_mo_shadeTold_54 : decode (q_cc m_mo_shadeTold) 54 = .ok (.getfield 93, 3) := by decide +kernel
theorem d_mo_shadeTold_57 : decode (q_cc m_mo_shadeTold) 57 = .ok (.iconst 0, 1) := by decide +kernel
theorem d_mo_shadeTold_58 : decode (q_cc m_mo_shadeTold) 58 = .ok (.iaload, 1) := by decide +kernel
theorem d_mo_shadeTold_59 : decode (q_cc m_mo_shadeTold) 59 = .ok (.if_icmp .ge 28, 3) := by decide +kernel
theorem d_mo_shadeTold_62 : decode (q_cc m_mo_shadeTold) 62 = .ok (.aload_n 0, 1) := by decide +kernel
theorem d_mo_shadeTold_63 : decode (q_cc m_mo_shadeTold) 63 = .ok (.getfield 106, 3) := by decide +kernel
theorem d_mo_shadeTold_66 : decode (q_cc m_mo_shadeTold) 66 = .ok (.bipush 6, 2) := by decide +kernel
theorem d_mo_shadeTold_68 : decode (q_cc m_mo_shadeTold) 68 = .ok (.iload_n 2, 1) := by decide +kernel
theorem d_mo_shadeTold_69 : decode (q_cc m_mo_shadeTold) 69 = .ok (.imul, 1) := by decide +kernel
theorem d_mo_shadeTold_70 : decode (q_cc m_mo_shadeTold) 70 = .ok (.iload 4, 2) := by decide +kernel
theorem d_mo_shadeTold_72 : decode (q_cc m_mo_shadeTold) 72 = .ok (.iadd, 1) := by decide +kernel
theorem d_mo_shadeTold_73 : decode (q_cc m_mo_shadeTold) 73 = .ok (.aload_n 0, 1) := by decide +kernel
theorem d_mo_shadeTold_74 : decode (q_cc m_mo_shadeTold) 74 = .ok (.iconst 0, 1) := by decide +kernel
theorem d_mo_shadeTold_75 : decode (q_cc m_mo_shadeTold) 75 = .ok (.bipush 9, 2) := by decide +kernel
theorem d_mo_shadeTold_77 : decode (q_cc m_mo_shadeTold) 77 = .ok (.invokevirtual 256, 3) := by decide +kernel
theorem d_mo_shadeTold_80 : decode (q_cc m_mo_shadeTold) 80 = .ok (.iastore, 1) := by decide +kernel
theorem d_mo_shadeTold_81 : decode (q_cc m_mo_shadeTold) 81 = .ok (.iinc 4 1, 3) := by decide +kernel
theorem d_mo_shadeTold_84 : decode (q_cc m_mo_shadeTold) 84 = .ok (.goto (-33), 3) := by decide +kernel
theorem d_mo_shadeTold_87 : decode (q_cc m_mo_shadeTold) 87 = .ok (.aload_n 0, 1) := by decide +kernel
theorem d_mo_shadeTold_88 : decode (q_cc m_mo_shadeTold) 88 = .ok (.aload_n 0, 1) := by decide +kernel
theorem d_mo_shadeTold_89 : decode (q_cc m_mo_shadeTold) 89 = .ok (.getfield 30, 3) := by decide +kernel
theorem d_mo_shadeTold_92 : decode (q_cc m_mo_shadeTold) 92 = .ok (.invokevirtual 248, 3) := by decide +kernel
theorem d_mo_shadeTold_95 : decode (q_cc m_mo_shadeTold) 95 = .ok (.iconst 0, 1) := by decide +kernel
theorem d_mo_shadeTold_96 : decode (q_cc m_mo_shadeTold) 96 = .ok (.istore 4, 2) := by decide +kernel
theorem d_mo_shadeTold_98 : decode (q_cc m_mo_shadeTold) 98 = .ok (.iload 4, 2) := by decide +kernel
theorem d_mo_shadeTold_100 : decode (q_cc m_mo_shadeTold) 100 = .ok (.aload_n 0, 1) := by decide +kernel
theorem d_mo_shadeTold_101 : decode (q_cc m_mo_shadeTold) 101 = .ok (.getfield 93, 3) := by decide +kernel
theorem d_mo_shadeTold_104 : decode (q_cc m_mo_shadeTold) 104 = .ok (.iconst 0, 1) := by decide +kernel
theorem d_mo_shadeTold_105 : decode (q_cc m_mo_shadeTold) 105 = .ok (.iaload, 1) := by decide +kernel
theorem d_mo_shadeTold_106 : decode (q_cc m_mo_shadeTold) 106 = .ok (.if_icmp .ge 27, 3) := by decide +kernel
theorem d_mo_shadeTold_109 : decode (q_cc m_mo_shadeTold) 109 = .ok (.aload_n 0, 1) := by decide +kernel
theorem d_mo_shadeTold_110 : decode (q_cc m_mo_shadeTold) 110 = .ok (.getfield 109, 3) := by decide +kernel
theorem d_mo_shadeTold_113 : decode (q_cc m_mo_shadeTold) 113 = .ok (.bipush 6, 2) := by decide +kernel
theorem d_mo_shadeTold_115 : decode (q_cc m_mo_shadeTold) 115 = .ok (.iload_n 2, 1) := by decide +kernel
theorem d_mo_shadeTold_116 : decode (q_cc m_mo_shadeTold) 116 = .ok (.imul, 1) := by decide +kernel
theorem d_mo_shadeTold_117 : decode (q_cc m_mo_shadeTold) 117 = .ok (.iload 4, 2) := by decide +kernel
theorem d_mo_shadeTold_119 : decode (q_cc m_mo_shadeTold) 119 = .ok (.iadd, 1) := by decide +kernel
theorem d_mo_shadeTold_120 : decode (q_cc m_mo_shadeTold) 120 = .ok (.aload_n 0, 1) := by decide +kernel
theorem d_mo_shadeTold_121 : decode (q_cc m_mo_shadeTold) 121 = .ok (.iconst 0, 1) := by decide +kernel
theorem d_mo_shadeTold_122 : decode (q_cc m_mo_shadeTold) 122 = .ok (.iconst 1, 1) := by decide +kernel
theorem d_mo_shadeTold_123 : decode (q_cc m_mo_shadeTold) 123 = .ok (.invokevirtual 256, 3) := by decide +kernel
theorem d_mo_shadeTold_126 : decode (q_cc m_mo_shadeTold) 126 = .ok (.iastore, 1) := by decide +kernel
theorem d_mo_shadeTold_127 : decode (q_cc m_mo_shadeTold) 127 = .ok (.iinc 4 1, 3) := by decide +kernel
theorem d_mo_shadeTold_130 : decode (q_cc m_mo_shadeTold) 130 = .ok (.goto (-32), 3) := by decide +kernel
theorem d_mo_shadeTold_133 : decode (q_cc m_mo_shadeTold) 133 = .ok (.aload_n 0, 1) := by decide +kernel
theorem d_mo_shadeTold_134 : decode (q_cc m_mo_shadeTold) 134 = .ok (.getfield 185, 3) := by decide +kernel
theorem d_mo_shadeTold_137 : decode (q_cc m_mo_shadeTold) 137 = .ok (.ifCond .ne 13, 3) := by decide +kernel
theorem d_mo_shadeTold_140 : decode (q_cc m_mo_shadeTold) 140 = .ok (.aload_n 0, 1) := by decide +kernel
theorem d_mo_shadeTold_141 : decode (q_cc m_mo_shadeTold) 141 = .ok (.getfield 93, 3) := by decide +kernel
theorem d_mo_shadeTold_144 : decode (q_cc m_mo_shadeTold) 144 = .ok (.iconst 2, 1) := by decide +kernel
theorem d_mo_shadeTold_145 : decode (q_cc m_mo_shadeTold) 145 = .ok (.dup2, 1) := by decide +kernel
theorem d_mo_shadeTold_146 : decode (q_cc m_mo_shadeTold) 146 = .ok (.iaload, 1) := by decide +kernel
theorem d_mo_shadeTold_147 : decode (q_cc m_mo_shadeTold) 147 = .ok (.iconst 1, 1) := by decide +kernel
theorem d_mo_shadeTold_148 : decode (q_cc m_mo_shadeTold) 148 = .ok (.iadd, 1) := by decide +kernel
theorem d_mo_shadeTold_149 : decode (q_cc m_mo_shadeTold) 149 = .ok (.iastore, 1) := by decide +kernel
theorem d_mo_shadeTold_150 : decode (q_cc m_mo_shadeTold) 150 = .ok (.return_, 1) := by decide +kernel
theorem d_mo_placeTold_0 : decode (q_cc m_mo_placeTold) 0 = .ok (.aload_n 0, 1) := by decide +kernel
theorem d_mo_placeTold_1 : decode (q_cc m_mo_placeTold) 1 = .ok (.iconst 3, 1) := by decide +kernel
theorem d_mo_placeTold_2 : decode (q_cc m_mo_placeTold) 2 = .ok (.bipush 8, 2) := by decide +kernel
theorem d_mo_placeTold_4 : decode (q_cc m_mo_placeTold) 4 = .ok (.iload_n 1, 1) := by decide +kernel
theorem d_mo_placeTold_5 : decode (q_cc m_mo_placeTold) 5 = .ok (.invokevirtual 267, 3) := by decide +kernel
theorem d_mo_placeTold_8 : decode (q_cc m_mo_placeTold) 8 = .ok (.ifCond .eq 4, 3) := by decide +kernel
theorem d_mo_placeTold_11 : decode (q_cc m_mo_placeTold) 11 = .ok (.return_, 1) := by decide +kernel
theorem d_mo_placeTold_12 : decode (q_cc m_mo_placeTold) 12 = .ok (.aload_n 0, 1) := by decide +kernel
theorem d_mo_placeTold_13 : decode (q_cc m_mo_placeTold) 13 = .ok (.iconst 3, 1) := by decide +kernel
theorem d_mo_placeTold_14 : decode (q_cc m_mo_placeTold) 14 = .ok (.invokevirtual 252, 3) := by decide +kernel
theorem d_mo_placeTold_17 : decode (q_cc m_mo_placeTold) 17 = .ok (.istore_n 2, 1) := by decide +kernel
theorem d_mo_placeTold_18 : decode (q_cc m_mo_placeTold) 18 = .ok (.aload_n 0, 1) := by decide +kernel
theorem d_mo_placeTold_19 : decode (q_cc m_mo_placeTold) 19 = .ok (.getfield 185, 3) := by decide +kernel
theorem d_mo_placeTold_22 : decode (q_cc m_mo_placeTold) 22 = .ok (.ifCond .ne 13, 3) := by decide +kernel
theorem d_mo_placeTold_25 : decode (q_cc m_mo_placeTold) 25 = .ok (.aload_n 0, 1) := by decide +kernel
theorem d_mo_placeTold_26 : decode (q_cc m_mo_placeTold) 26 = .ok (.getfield 93, 3) := by decide +kernel
theorem d_mo_placeTold_29 : decode (q_cc m_mo_placeTold) 29 = .ok (.iconst 3, 1) := by decide +kernel
theorem d_mo_placeTold_30 : decode (q_cc m_mo_placeTold) 30 = .ok (.dup2, 1) := by decide +kernel
theorem d_mo_placeTold_31 : decode (q_cc m_mo_placeTold) 31 = .ok (.iaload, 1) := by decide +kernel
theorem d_mo_placeTold_32 : decode (q_cc m_mo_placeTold) 32 = .ok (.iconst 1, 1) := by decide +kernel
theorem d_mo_placeTold_33 : decode (q_cc m_mo_placeTold) 33 = .ok (.iadd, 1) := by decide +kernel
theorem d_mo_placeTold_34 : decode (q_cc m_mo_placeTold) 34 = .ok (.iastore, 1) := by decide +kernel
theorem d_mo_placeTold_35 : decode (q_cc m_mo_placeTold) 35 = .ok (.return_, 1) := by decide +kernel
theorem d_mo_roadTold_0 : decode (q_cc m_mo_roadTold) 0 = .ok (.aload_n 0, 1) := by decide +kernel
theorem d_mo_roadTold_1 : decode (q_cc m_mo_roadTold) 1 = .ok (.iconst 4, 1) := by decide +kernel
theorem d_mo_roadTold_2 : decode (q_cc m_mo_roadTold) 2 = .ok (.bipush 20, 2) := by decide +kernel
theorem d_mo_roadTold_4 : decode (q_cc m_mo_roadTold) 4 = .ok (.iload_n 1, 1) := by decide +kernel
theorem d_mo_roadTold_5 : decode (q_cc m_mo_roadTold) 5 = .ok (.invokevirtual 267, 3) := by decide +kernel
theorem d_mo_roadTold_8 : decode (q_cc m_mo_roadTold) 8 = .ok (.ifCond .eq 4, 3) := by decide +kernel
theorem d_mo_roadTold_11 : decode (q_cc m_mo_roadTold) 11 = .ok (.return_, 1) := by decide +kernel
theorem d_mo_roadTold_12 : decode (q_cc m_mo_roadTold) 12 = .ok (.aload_n 0, 1) := by decide +kernel
theorem d_mo_roadTold_13 : decode (q_cc m_mo_roadTold) 13 = .ok (.iconst 3, 1) := by decide +kernel
theorem d_mo_roadTold_14 : decode (q_cc m_mo_roadTold) 14 = .ok (.invokevirtual 271, 3) := by decide +kernel
theorem d_mo_roadTold_17 : decode (q_cc m_mo_roadTold) 17 = .ok (.istore_n 2, 1) := by decide +kernel
theorem d_mo_roadTold_18 : decode (q_cc m_mo_roadTold) 18 = .ok (.aload_n 0, 1) := by decide +kernel
theorem d_mo_roadTold_19 : decode (q_cc m_mo_roadTold) 19 = .ok (.iconst 3, 1) := by decide +kernel
theorem d_mo_roadTold_20 : decode (q_cc m_mo_roadTold) 20 = .ok (.invokevirtual 271, 3) := by decide +kernel
theorem d_mo_roadTold_23 : decode (q_cc m_mo_roadTold) 23 = .ok (.istore_n 3, 1) := by decide +kernel
theorem d_mo_roadTold_24 : decode (q_cc m_mo_roadTold) 24 = .ok (.aload_n 0, 1) := by decide +kernel
theorem d_mo_roadTold_25 : decode (q_cc m_mo_roadTold) 25 = .ok (.getfield 185, 3) := by decide +kernel
theorem d_mo_roadTold_28 : decode (q_cc m_mo_roadTold) 28 = .ok (.ifCond .ne 17, 3) := by decide +kernel
theorem d_mo_roadTold_31 : decode (q_cc m_mo_roadTold) 31 = .ok (.iload_n 2, 1) := by decide +kernel
theorem d_mo_roadTold_32 : decode (q_cc m_mo_roadTold) 32 = .ok (.iload_n 3, 1) := by decide +kernel
theorem d_mo_roadTold_33 : decode (q_cc m_mo_roadTold) 33 = .ok (.if_icmp .ne 12, 3) := by decide +kernel
theorem d_mo_roadTold_36 : decode (q_cc m_mo_roadTold) 36 = .ok (.aload_n 0, 1) := by decide +kernel
theorem d_mo_roadTold_37 : decode (q_cc m_mo_roadTold) 37 = .ok (.iconst 3, 1) := by decide +kernel
theorem d_mo_roadTold_38 : decode (q_cc m_mo_roadTold) 38 = .ok (.aload_n 0, 1) := by decide +kernel
theorem d_mo_roadTold_39 : decode (q_cc m_mo_roadTold) 39 = .ok (.getfield 233, 3) := by decide +kernel
theorem d_mo_roadTold_42 : decode (q_cc m_mo_roadTold) 42 = .ok (.invokevirtual 215, 3) := by decide +kernel
theorem d_mo_roadTold_45 : decode (q_cc m_mo_roadTold) 45 = .ok (.aload_n 0, 1) := by decide +kernel
theorem d_mo_roadTold_46 : decode (q_cc m_mo_roadTold) 46 = .ok (.iconst 1, 1) := by decide +kernel
theorem d_mo_roadTold_47 : decode (q_cc m_mo_roadTold) 47 = .ok (.bipush 9, 2) := by decide +kernel
theorem d_mo_roadTold_49 : decode (q_cc m_mo_roadTold) 49 = .ok (.invokevirtual 256, 3) := by decide +kernel
theorem d_mo_roadTold_52 : decode (q_cc m_mo_roadTold) 52 = .ok (.istore 4, 2) := by decide +kernel
theorem d_mo_roadTold_54 : decode (q_cc m_mo_roadTold) 54 = .ok (.aload_n 0, 1) := by decide +kernel
theorem d_mo_roadTold_55 : decode (q_cc m_mo_roadTold) 55 = .ok (.getfield 185, 3) := by decide +kernel
theorem d_mo_roadTold_58 : decode (q_cc m_mo_roadTold) 58 = .ok (.ifCond .eq 4, 3) := by decide +kernel
theorem d_mo_roadTold_61 : decode (q_cc m_mo_roadTold) 61 = .ok (.return_, 1) := by decide +kernel
theorem d_mo_roadTold_62 : decode (q_cc m_mo_roadTold) 62 = .ok (.aload_n 0, 1) := by decide +kernel
theorem d_mo_roadTold_63 : decode (q_cc m_mo_roadTold) 63 = .ok (.getfield 93, 3) := by decide +kernel
theorem d_mo_roadTold_66 : decode (q_cc m_mo_roadTold) 66 = .ok (.iconst 4, 1) := by decide +kernel
theorem d_mo_roadTold_67 : decode (q_cc m_mo_roadTold) 67 = .ok (.dup2, 1) := by decide +kernel
theorem d_mo_roadTold_68 : decode (q_cc m_mo_roadTold) 68 = .ok (.iaload, 1) := by decide +kernel
theorem d_mo_roadTold_69 : decode (q_cc m_mo_roadTold) 69 = .ok (.iconst 1, 1) := by decide +kernel
theorem d_mo_roadTold_70 : decode (q_cc m_mo_roadTold) 70 = .ok (.iadd, 1) := by decide +kernel
theorem d_mo_roadTold_71 : decode (q_cc m_mo_roadTold) 71 = .ok (.iastore, 1) := by decide +kernel
theorem d_mo_roadTold_72 : decode (q_cc m_mo_roadTold) 72 = .ok (.iload 4, 2) := by decide +kernel
theorem d_mo_roadTold_74 : decode (q_cc m_mo_roadTold) 74 = .ok (.aload_n 0, 1) := by decide +kernel
theorem d_mo_roadTold_75 : decode (q_cc m_mo_roadTold) 75 = .ok (.getfield 115, 3) := by decide +kernel
theorem d_mo_roadTold_78 : decode (q_cc m_mo_roadTold) 78 = .ok (.bipush 8, 2) := by decide +kernel
theorem d_mo_roadTold_80 : decode (q_cc m_mo_roadTold) 80 = .ok (.iload_n 2, 1) := by decide +kernel
theorem d_mo_roadTold_81 : decode (q_cc m_mo_roadTold) 81 = .ok (.imul, 1) := by decide +kernel
theorem d_mo_roadTold_82 : decode (q_cc m_mo_roadTold) 82 = .ok (.iload_n 3, 1) := by decide +kernel
theorem d_mo_roadTold_83 : decode (q_cc m_mo_roadTold) 83 = .ok (.iadd, 1) := by decide +kernel
theorem d_mo_roadTold_84 : decode (q_cc m_mo_roadTold) 84 = .ok (.iaload, 1) := by decide +kernel
theorem d_mo_roadTold_85 : decode (q_cc m_mo_roadTold) 85 = .ok (.if_icmp .lt 4, 3) := by decide +kernel
theorem d_mo_roadTold_88 : decode (q_cc m_mo_roadTold) 88 = .ok (.return_, 1) := by decide +kernel
theorem d_mo_roadTold_89 : decode (q_cc m_mo_roadTold) 89 = .ok (.aload_n 0, 1) := by decide +kernel
theorem d_mo_roadTold_90 : decode (q_cc m_mo_roadTold) 90 = .ok (.getfield 115, 3) := by decide +kernel
theorem d_mo_roadTold_93 : decode (q_cc m_mo_roadTold) 93 = .ok (.bipush 8, 2) := by decide +kernel
theorem d_mo_roadTold_95 : decode (q_cc m_mo_roadTold) 95 = .ok (.iload_n 2, 1) := by decide +kernel
theorem d_mo_roadTold_96 : decode (q_cc m_mo_roadTold) 96 = .ok (.imul, 1) := by decide +kernel
theorem d_mo_roadTold_97 : decode (q_cc m_mo_roadTold) 97 = .ok (.iload_n 3, 1) := by decide +kernel
theorem d_mo_roadTold_98 : decode (q_cc m_mo_roadTold) 98 = .ok (.iadd, 1) := by decide +kernel
theorem d_mo_roadTold_99 : decode (q_cc m_mo_roadTold) 99 = .ok (.iload 4, 2) := by decide +kernel
theorem d_mo_roadTold_101 : decode (q_cc m_mo_roadTold) 101 = .ok (.iastore, 1) := by decide +kernel
theorem d_mo_roadTold_102 : decode (q_cc m_mo_roadTold) 102 = .ok (.aload_n 0, 1) := by decide +kernel
theorem d_mo_roadTold_103 : decode (q_cc m_mo_roadTold) 103 = .ok (.getfield 115, 3) := by decide +kernel
theorem d_mo_roadTold_106 : decode (q_cc m_mo_roadTold) 106 = .ok (.bipush 8, 2) := by decide +kernel
theorem d_mo_roadTold_108 : decode (q_cc m_mo_roadTold) 108 = .ok (.iload_n 3, 1) := by decide +kernel
theorem d_mo_roadTold_109 : decode (q_cc m_mo_roadTold) 109 = .ok (.imul, 1) := by decide +kernel
theorem d_mo_roadTold_110 : decode (q_cc m_mo_roadTold) 110 = .ok (.iload_n 2, 1) := by decide +kernel
theorem d_mo_roadTold_111 : decode (q_cc m_mo_roadTold) 111 = .ok (.iadd, 1) := by decide +kernel
theorem d_mo_roadTold_112 : decode (q_cc m_mo_roadTold) 112 = .ok (.iload 4, 2) := by decide +kernel
theorem d_mo_roadTold_114 : decode (q_cc m_mo_roadTold) 114 = .ok (.iastore, 1) := by decide +kernel
theorem d_mo_roadTold_115 : decode (q_cc m_mo_roadTold) 115 = .ok (.return_, 1) := by decide +kernel
theorem d_mo_seenTold_0 : decode (q_cc m_mo_seenTold) 0 = .ok (.aload_n 0, 1) := by decide +kernel
theorem d_mo_seenTold_1 : decode (q_cc m_mo_seenTold) 1 = .ok (.iconst 5, 1) := by decide +kernel
theorem d_mo_seenTold_2 : decode (q_cc m_mo_seenTold) 2 = .ok (.bipush 24, 2) := by decide +kernel
theorem d_mo_seenTold_4 : decode (q_cc m_mo_seenTold) 4 = .ok (.iload_n 1, 1) := by decide +kernel
theorem d_mo_seenTold_5 : decode (q_cc m_mo_seenTold) 5 = .ok (.invokevirtual 267, 3) := by decide +kernel
theorem d_mo_seenTold_8 : decode (q_cc m_mo_seenTold) 8 = .ok (.ifCond .eq 4, 3) := by decide +kernel
theorem d_mo_seenTold_11 : decode (q_cc m_mo_seenTold) 11 = .ok (.return_, 1) := by decide +kernel
theorem d_mo_seenTold_12 : decode (q_cc m_mo_seenTold) 12 = .ok (.iconst 5, 1) := by decide +kernel
theorem d_mo_seenTold_13 : decode (q_cc m_mo_seenTold) 13 = .ok (.aload_n 0, 1) := by decide +kernel
theorem d_mo_seenTold_14 : decode (q_cc m_mo_seenTold) 14 = .ok (.getfield 93, 3) := by decide +kernel
theorem d_mo_seenTold_17 : decode (q_cc m_mo_seenTold) 17 = .ok (.iconst 5, 1) := by decide +kernel
theorem d_mo_seenTold_18 : decode (q_cc m_mo_seenTold) 18 = .ok (.iaload, 1) := by decide +kernel
theorem d_mo_seenTold_19 : decode (q_cc m_mo_seenTold) 19 = .ok (.imul, 1) := by decide +kernel
theorem d_mo_seenTold_20 : decode (q_cc m_mo_seenTold) 20 = .ok (.istore_n 2, 1) := by decide +kernel
theorem d_mo_seenTold_21 : decode (q_cc m_mo_seenTold) 21 = .ok (.aload_n 0, 1) := by decide +kernel
theorem d_mo_seenTold_22 : decode (q_cc m_mo_seenTold) 22 = .ok (.getfield 118, 3) := by decide +kernel
theorem d_mo_seenTold_25 : decode (q_cc m_mo_seenTold) 25 = .ok (.iload_n 2, 1) := by decide +kernel
theorem d_mo_seenTold_26 : decode (q_cc m_mo_seenTold) 26 = .ok (.aload_n 0, 1) := by decide +kernel
theorem d_mo_seenTold_27 : decode (q_cc m_mo_seenTold) 27 = .ok (.iconst 1, 1) := by decide +kernel
theorem d_mo_seenTold_28 : decode (q_cc m_mo_seenTold) 28 = .ok (.invokevirtual 271, 3) := by decide +kernel
theorem d_mo_seenTold_31 : decode (q_cc m_mo_seenTold) 31 = .ok (.iastore, 1) := by decide +kernel
theorem d_mo_seenTold_32 : decode (q_cc m_mo_seenTold) 32 = .ok (.aload_n 0, 1) := by decide +kernel
theorem d_mo_seenTold_33 : decode (q_cc m_mo_seenTold) 33 = .ok (.aload_n 0, 1) := by decide +kernel
theorem d_mo_seenTold_34 : decode (q_cc m_mo_seenTold) 34 = .ok (.getfield 42, 3) := by decide +kernel
theorem d_mo_seenTold_37 : decode (q_cc m_mo_seenTold) 37 = .ok (.invokevirtual 248, 3) := by decide +kernel
theorem d_mo_seenTold_40 : decode (q_cc m_mo_seenTold) 40 = .ok (.aload_n 0, 1) := by decide +kernel
theorem d_mo_seenTold_41 : decode (q_cc m_mo_seenTold) 41 = .ok (.getfield 118, 3) := by decide +kernel
theorem d_mo_seenTold_44 : decode (q_cc m_mo_seenTold) 44 = .ok (.iload_n 2, 1) := by decide +kernel
theorem d_mo_seenTold_45 : decode (q_cc m_mo_seenTold) 45 = .ok (.iconst 1, 1) := by decide +kernel
theorem d_mo_seenTold_46 : decode (q_cc m_mo_seenTold) 46 = .ok (.iadd, 1) := by decide +kernel
theorem d_mo_seenTold_47 : decode (q_cc m_mo_seenTold) 47 = .ok (.aload_n 0, 1) := by decide +kernel
theorem d_mo_seenTold_48 : decode (q_cc m_mo_seenTold) 48 = .ok (.iconst 3, 1) := by decide +kernel
theorem d_mo_seenTold_49 : decode (q_cc m_mo_seenTold) 49 = .ok (.invokevirtual 271, 3) := by decide +kernel
theorem d_mo_seenTold_52 : decode (q_cc m_mo_seenTold) 52 = .ok (.iastore, 1) := by decide +kernel
theorem d_mo_seenTold_53 : decode (q_cc m_mo_seenTold) 53 = .ok (.aload_n 0, 1) := by decide +kernel
theorem d_mo_seenTold_54 : decode (q_cc m_mo_seenTold) 54 = .ok (.aload_n 0, 1) := by decide +kernel
theorem d_mo_seenTold_55 : decode (q_cc m_mo_seenTold) 55 = .ok (.getfield 45, 3) := by decide +kernel
theorem d_mo_seenTold_58 : decode (q_cc m_mo_seenTold) 58 = .ok (.invokevirtual 248, 3) := by decide +kernel
theorem d_mo_seenTold_61 : decode (q_cc m_mo_seenTold) 61 = .ok (.aload_n 0, 1) := by decide +kernel
theorem d_mo_seenTold_62 : decode (q_cc m_mo_seenTold) 62 = .ok (.getfield 118, 3) := by decide +kernel
theorem d_mo_seenTold_65 : decode (q_cc m_mo_seenTold) 65 = .ok (.iload_n 2, 1) := by decide +kernel
theorem d_mo_seenTold_66 : decode (q_cc m_mo_seenTold) 66 = .ok (.iconst 2, 1) := by decide +kernel
theorem d_mo_seenTold_67 : decode (q_cc m_mo_seenTold) 67 = .ok (.iadd, 1) := by decide +kernel
theorem d_mo_seenTold_68 : decode (q_cc m_mo_seenTold) 68 = .ok (.aload_n 0, 1) := by decide +kernel
theorem d_mo_seenTold_69 : decode (q_cc m_mo_seenTold) 69 = .ok (.iconst 0, 1) := by decide +kernel
theorem d_mo_seenTold_70 : decode (q_cc m_mo_seenTold) 70 = .ok (.bipush 99, 2) := by decide +kernel
theorem d_mo_seenTold_72 : decode (q_cc m_mo_seenTold) 72 = .ok (.invokevirtual 256, 3) := by decide +kernel
theorem d_mo_seenTold_75 : decode (q_cc m_mo_seenTold) 75 = .ok (.iastore, 1) := by decide +kernel
theorem d_mo_seenTold_76 : decode (q_cc m_mo_seenTold) 76 = .ok (.aload_n 0, 1) := by decide +kernel
theorem d_mo_seenTold_77 : decode (q_cc m_mo_seenTold) 77 = .ok (.aload_n 0, 1) := by decide +kernel
theorem d_mo_seenTold_78 : decode (q_cc m_mo_seenTold) 78 = .ok (.getfield 48, 3) := by decide +kernel
theorem d_mo_seenTold_81 : decode (q_cc m_mo_seenTold) 81 = .ok (.invokevirtual 248, 3) := by decide +kernel
theorem d_mo_seenTold_84 : decode (q_cc m_mo_seenTold) 84 = .ok (.aload_n 0, 1) := by decide +kernel
theorem d_mo_seenTold_85 : decode (q_cc m_mo_seenTold) 85 = .ok (.getfield 118, 3) := by decide +kernel
theorem d_mo_seenTold_88 : decode (q_cc m_mo_seenTold) 88 = .ok (.iload_n 2, 1) := by decide +kernel
theorem d_mo_seenTold_89 : decode (q_cc m_mo_seenTold) 89 = .ok (.iconst 3, 1) := by decide +kernel
theorem d_mo_seenTold_90 : decode (q_cc m_mo_seenTold) 90 = .ok (.iadd, 1) := by decide +kernel
theorem d_mo_seenTold_91 : decode (q_cc m_mo_seenTold) 91 = .ok (.aload_n 0, 1) := by decide +kernel
theorem d_mo_seenTold_92 : decode (q_cc m_mo_seenTold) 92 = .ok (.iconst 0, 1) := by decide +kernel
theorem d_mo_seenTold_93 : decode (q_cc m_mo_seenTold) 93 = .ok (.bipush 100, 2) := by decide +kernel
theorem d_mo_seenTold_95 : decode (q_cc m_mo_seenTold) 95 = .ok (.invokevirtual 256, 3) := by decide +kernel
theorem d_mo_seenTold_98 : decode (q_cc m_mo_seenTold) 98 = .ok (.iastore, 1) := by decide +kernel
theorem d_mo_seenTold_99 : decode (q_cc m_mo_seenTold) 99 = .ok (.aload_n 0, 1) := by decide +kernel
theorem d_mo_seenTold_100 : decode (q_cc m_mo_seenTold) 100 = .ok (.aload_n 0, 1) := by decide +kernel
theorem d_mo_seenTold_101 : decode (q_cc m_mo_seenTold) 101 = .ok (.getfield 51, 3) := by decide +kernel
theorem d_mo_seenTold_104 : decode (q_cc m_mo_seenTold) 104 = .ok (.invokevirtual 212, 3) := by decide +kernel
theorem d_mo_seenTold_107 : decode (q_cc m_mo_seenTold) 107 = .ok (.istore_n 3, 1) := by decide +kernel
theorem d_mo_seenTold_108 : decode (q_cc m_mo_seenTold) 108 = .ok (.iload_n 3, 1) := by decide +kernel
theorem d_mo_seenTold_109 : decode (q_cc m_mo_seenTold) 109 = .ok (.ifCond .ne 11, 3) := by decide +kernel
theorem d_mo_seenTold_112 : decode (q_cc m_mo_seenTold) 112 = .ok (.aload_n 0, 1) := by decide +kernel
theorem d_mo_seenTold_113 : decode (q_cc m_mo_seenTold) 113 = .ok (.aload_n 0, 1) := by decide +kernel
theorem d_mo_seenTold_114 : decode (q_cc m_mo_seenTold) 114 = .ok (.getfield 54, 3) := by decide +kernel
theorem d_mo_seenTold_117 : decode (q_cc m_mo_seenTold) 117 = .ok (.invokevirtual 248, 3) := by decide +kernel
theorem d_mo_seenTold_120 : decode (q_cc m_mo_seenTold) 120 = .ok (.aload_n 0, 1) := by decide +kernel
theorem d_mo_seenTold_121 : decode (q_cc m_mo_seenTold) 121 = .ok (.getfield 118, 3) := by decide +kernel
theorem d_mo_seenTold_124 : decode (q_cc m_mo_seenTold) 124 = .ok (.iload_n 2, 1) := by decide +kernel
theorem d_mo_seenTold_125 : decode (q_cc m_mo_seenTold) 125 = .ok (.iconst 4, 1) := by decide +kernel
theorem d_mo_seenTold_126 : decode (q_cc m_mo_seenTold) 126 = .ok (.iadd, 1) := by decide +kernel
theorem d_mo_seenTold_127 : decode (q_cc m_mo_seenTold) 127 = .ok (.iload_n 3, 1) := by decide +kernel
theorem d_mo_seenTold_128 : decode (q_cc m_mo_seenTold) 128 = .ok (.ifCond .eq 7, 3) := by decide +kernel
theorem d_mo_seenTold_131 : decode (q_cc m_mo_seenTold) 131 = .ok (.iconst 1, 1) := by decide +kernel
theorem d_mo_seenTold_132 : decode (q_cc m_mo_seenTold) 132 = .ok (.goto 4, 3) := by decide +kernel
theorem d_mo_seenTold_135 : decode (q_cc m_mo_seenTold) 135 = .ok (.iconst 0, 1) := by decide +kernel
theorem d_mo_seenTold_136 : decode (q_cc m_mo_seenTold) 136 = .ok (.iastore, 1) := by decide +kernel
theorem d_mo_seenTold_137 : decode (q_cc m_mo_seenTold) 137 = .ok (.aload_n 0, 1) := by decide +kernel
theorem d_mo_seenTold_138 : decode (q_cc m_mo_seenTold) 138 = .ok (.getfield 185, 3) := by decide +kernel
theorem d_mo_seenTold_141 : decode (q_cc m_mo_seenTold) 141 = .ok (.ifCond .ne 13, 3) := by decide +kernel
theorem d_mo_seenTold_144 : decode (q_cc m_mo_seenTold) 144 = .ok (.aload_n 0, 1) := by decide +kernel
theorem d_mo_seenTold_145 : decode (q_cc m_mo_seenTold) 145 = .ok (.getfield 93, 3) := by decide +kernel
theorem d_mo_seenTold_148 : decode (q_cc m_mo_seenTold) 148 = .ok (.iconst 5, 1) := by decide +kernel
theorem d_mo_seenTold_149 : decode (q_cc m_mo_seenTold) 149 = .ok (.dup2, 1) := by decide +kernel
theorem d_mo_seenTold_150 : decode (q_cc m_mo_seenTold) 150 = .ok (.iaload, 1) := by decide +kernel
theorem d_mo_seenTold_151 : decode (q_cc m_mo_seenTold) 151 = .ok (.iconst 1, 1) := by decide +kernel
theorem d_mo_seenTold_152 : decode (q_cc m_mo_seenTold) 152 = .ok (.iadd, 1) := by decide +kernel
theorem d_mo_seenTold_153 : decode (q_cc m_mo_seenTold) 153 = .ok (.iastore, 1) := by decide +kernel
theorem d_mo_seenTold_154 : decode (q_cc m_mo_seenTold) 154 = .ok (.return_, 1) := by decide +kernel
theorem d_mo_priceTold_0 : decode (q_cc m_mo_priceTold) 0 = .ok (.aload_n 0, 1) := by decide +kernel
theorem d_mo_priceTold_1 : decode (q_cc m_mo_priceTold) 1 = .ok (.bipush 6, 2) := by decide +kernel
theorem d_mo_priceTold_3 : decode (q_cc m_mo_priceTold) 3 = .ok (.bipush 6, 2) := by decide +kernel
theorem d_mo_priceTold_5 : decode (q_cc m_mo_priceTold) 5 = .ok (.iload_n 1, 1) := by decide +kernel
theorem d_mo_priceTold_6 : decode (q_cc m_mo_priceTold) 6 = .ok (.invokevirtual 267, 3) := by decide +kernel
theorem d_mo_priceTold_9 : decode (q_cc m_mo_priceTold) 9 = .ok (.ifCond .eq 4, 3) := by decide +kernel
theorem d_mo_priceTold_12 : decode (q_cc m_mo_priceTold) 12 = .ok (.return_, 1) := by decide +kernel
theorem d_mo_priceTold_13 : decode (q_cc m_mo_priceTold) 13 = .ok (.aload_n 0, 1) := by decide +kernel
theorem d_mo_priceTold_14 : decode (q_cc m_mo_priceTold) 14 = .ok (.getfield 93, 3) := by decide +kernel
theorem d_mo_priceTold_17 : decode (q_cc m_mo_priceTold) 17 = .ok (.bipush 6, 2) := by decide +kernel
theorem d_mo_priceTold_19 : decode (q_cc m_mo_priceTold) 19 = .ok (.iaload, 1) := by decide +kernel
theorem d_mo_priceTold_20 : decode (q_cc m_mo_priceTold) 20 = .ok (.istore_n 2, 1) := by decide +kernel
theorem d_mo_priceTold_21 : decode (q_cc m_mo_priceTold) 21 = .ok (.aload_n 0, 1) := by decide +kernel
theorem d_mo_priceTold_22 : decode (q_cc m_mo_priceTold) 22 = .ok (.getfield 127, 3) := by decide +kernel
theorem d_mo_priceTold_25 : decode (q_cc m_mo_priceTold) 25 = .ok (.iload_n 2, 1) := by decide +kernel
theorem d_mo_priceTold_26 : decode (q_cc m_mo_priceTold) 26 = .ok (.aload_n 0, 1) := by decide +kernel
theorem d_mo_priceTold_27 : decode (q_cc m_mo_priceTold) 27 = .ok (.getfield 274, 3) := by decide +kernel
theorem d_mo_priceTold_30 : decode (q_cc m_mo_priceTold) 30 = .ok (.iastore, 1) := by decide +kernel
theorem d_mo_priceTold_31 : decode (q_cc m_mo_priceTold) 31 = .ok (.aload_n 0, 1) := by decide +kernel
theorem d_mo_priceTold_32 : decode (q_cc m_mo_priceTold) 32 = .ok (.iconst 0, 1) := by decide +kernel
theorem d_mo_priceTold_33 : decode (q_cc m_mo_priceTold) 33 = .ok (.putfield 277, 3) := by decide +kernel
theorem d_mo_priceTold_36 : decode (q_cc m_mo_priceTold) 36 = .ok (.aload_n 0, 1) := by decide +kernel
theorem d_mo_priceTold_37 : decode (q_cc m_mo_priceTold) 37 = .ok (.iconst 0, 1) := by decide +kernel
theorem d_mo_priceTold_38 : decode (q_cc m_mo_priceTold) 38 = .ok (.putfield 280, 3) := by decide +kernel
theorem d_mo_priceTold_41 : decode (q_cc m_mo_priceTold) 41 = .ok (.aload_n 0, 1) := by decide +kernel
theorem d_mo_priceTold_42 : decode (q_cc m_mo_priceTold) 42 = .ok (.iconst 0, 1) := by decide +kernel
theorem d_mo_priceTold_43 : decode (q_cc m_mo_priceTold) 43 = .ok (.putfield 283, 3) := by decide +kernel
theorem d_mo_priceTold_46 : decode (q_cc m_mo_priceTold) 46 = .ok (.aload_n 0, 1) := by decide +kernel
theorem d_mo_priceTold_47 : decode (q_cc m_mo_priceTold) 47 = .ok (.invokevirtual 286, 3) := by decide +kernel
theorem d_mo_priceTold_50 : decode (q_cc m_mo_priceTold) 50 = .ok (.aload_n 0, 1) := by decide +kernel
theorem d_mo_priceTold_51 : decode (q_cc m_mo_priceTold) 51 = .ok (.getfield 130, 3) := by decide +kernel
theorem d_mo_priceTold_54 : decode (q_cc m_mo_priceTold) 54 = .ok (.iload_n 2, 1) := by decide +kernel
theorem d_mo_priceTold_55 : decode (q_cc m_mo_priceTold) 55 = .ok (.aload_n 0, 1) := by decide +kernel
theorem d_mo_priceTold_56 : decode (q_cc m_mo_priceTold) 56 = .ok (.getfield 274, 3) := by decide +kernel
theorem d_mo_priceTold_59 : decode (q_cc m_mo_priceTold) 59 = .ok (.iastore, 1) := by decide +kernel
theorem d_mo_priceTold_60 : decode (q_cc m_mo_priceTold) 60 = .ok (.aload_n 0, 1) := by decide +kernel
theorem d_mo_priceTold_61 : decode (q_cc m_mo_priceTold) 61 = .ok (.aload_n 0, 1) := by decide +kernel
theorem d_mo_priceTold_62 : decode (q_cc m_mo_priceTold) 62 = .ok (.getfield 60, 3) := by decide +kernel
theorem d_mo_priceTold_65 : decode (q_cc m_mo_priceTold) 65 = .ok (.invokevirtual 248, 3) := by decide +kernel
theorem d_mo_priceTold_68 : decode (q_cc m_mo_priceTold) 68 = .ok (.aload_n 0, 1) := by decide +kernel
theorem d_mo_priceTold_69 : decode (q_cc m_mo_priceTold) 69 = .ok (.iconst 0, 1) := by decide +kernel
theorem d_mo_priceTold_70 : decode (q_cc m_mo_priceTold) 70 = .ok (.putfield 277, 3) := by decide +kernel
theorem d_mo_priceTold_73 : decode (q_cc m_mo_priceTold) 73 = .ok (.aload_n 0, 1) := by decide +kernel
theorem d_mo_priceTold_74 : decode (q_cc m_mo_priceTold) 74 = .ok (.iconst 0, 1) := by decide +kernel
theorem d_mo_priceTold_75 : decode (q_cc m_mo_priceTold) 75 = .ok (.putfield 280, 3) := by decide +kernel
theorem d_mo_priceTold_78 : decode (q_cc m_mo_priceTold) 78 = .ok (.aload_n 0, 1) := by decide +kernel
theorem d_mo_priceTold_79 : decode (q_cc m_mo_priceTold) 79 = .ok (.iconst 0, 1) := by decide +kernel
theorem d_mo_priceTold_80 : decode (q_cc m_mo_priceTold) 80 = .ok (.putfield 283, 3) := by decide +kernel
theorem d_mo_priceTold_83 : decode (q_cc m_mo_priceTold) 83 = .ok (.aload_n 0, 1) := by decide +kernel
theorem d_mo_priceTold_84 : decode (q_cc m_mo_priceTold) 84 = .ok (.getfield 185, 3) := by decide +kernel
theorem d_mo_priceTold_87 : decode (q_cc m_mo_priceTold) 87 = .ok (.ifCond .ne 7, 3) := by decide +kernel
theorem d_mo_priceTold_90 : decode (q_cc m_mo_priceTold) 90 = .ok (.aload_n 0, 1) := by decide +kernel
theorem d_mo_priceTold_91 : decode (q_cc m_mo_priceTold) 91 = .ok (.invokevirtual 289, 3) := by decide +kernel
theorem d_mo_priceTold_94 : decode (q_cc m_mo_priceTold) 94 = .ok (.aload_n 0, 1) := by decide +kernel
theorem d_mo_priceTold_95 : decode (q_cc m_mo_priceTold) 95 = .ok (.getfield 133, 3) := by decide +kernel
theorem d_mo_priceTold_98 : decode (q_cc m_mo_priceTold) 98 = .ok (.iload_n 2, 1) := by decide +kernel
theorem d_mo_priceTold_99 : decode (q_cc m_mo_priceTold) 99 = .ok (.aload_n 0, 1) := by decide +kernel
theorem d_mo_priceTold_100 : decode (q_cc m_mo_priceTold) 100 = .ok (.getfield 274, 3) := by decide +kernel
theorem d_mo_priceTold_103 : decode (q_cc m_mo_priceTold) 103 = .ok (.iastore, 1) := by decide +kernel
theorem d_mo_priceTold_104 : decode (q_cc m_mo_priceTold) 104 = .ok (.aload_n 0, 1) := by decide +kernel
theorem d_mo_priceTold_105 : decode (q_cc m_mo_priceTold) 105 = .ok (.getfield 93, 3) := by decide +kernel
theorem d_mo_priceTold_108 : decode (q_cc m_mo_priceTold) 108 = .ok (.bipush 6, 2) := by decide +kernel
theorem d_mo_priceTold_110 : decode (q_cc m_mo_priceTold) 110 = .ok (.dup2, 1) := by decide +kernel
theorem d_mo_priceTold_111 : decode (q_cc m_mo_priceTold) 111 = .ok (.iaload, 1) := by decide +kernel
theorem d_mo_priceTold_112 : decode (q_cc m_mo_priceTold) 112 = .ok (.iconst 1, 1) := by decide +kernel
theorem d_mo_priceTold_113 : decode (q_cc m_mo_priceTold) 113 = .ok (.iadd, 1) := by decide +kernel
theorem d_mo_priceTold_114 : decode (q_cc m_mo_priceTold) 114 = .ok (.iastore, 1) := by decide +kernel
theorem d_mo_priceTold_115 : decode (q_cc m_mo_priceTold) 115 = .ok (.return_, 1) := by decide +kernel
theorem d_mo_statementTold_0 : decode (q_cc m_mo_statementTold) 0 = .ok (.aload_n 0, 1) := by decide +kernel
theorem d_mo_statementTold_1 : decode (q_cc m_mo_statementTold) 1 = .ok (.getfield 191, 3) := by decide +kernel
theorem d_mo_statementTold_4 : decode (q_cc m_mo_statementTold) 4 = .ok (.istore_n 1, 1) := by decide +kernel
theorem d_mo_statementTold_5 : decode (q_cc m_mo_statementTold) 5 = .ok (.aload_n 0, 1) := by decide +kernel
theorem d_mo_statementTold_6 : decode (q_cc m_mo_statementTold) 6 = .ok (.getfield 264, 3) := by decide +kernel
theorem d_mo_statementTold_9 : decode (q_cc m_mo_statementTold) 9 = .ok (.bipush 90, 2) := by decide +kernel
theorem d_mo_statementTold_11 : decode (q_cc m_mo_statementTold) 11 = .ok (.if_icmp .ne 10, 3) := by decide +kernel
theorem d_mo_statementTold_14 : decode (q_cc m_mo_statementTold) 14 = .ok (.aload_n 0, 1) := by decide +kernel
theorem d_mo_statementTold_15 : decode (q_cc m_mo_statementTold) 15 = .ok (.iconst 5, 1) := by decide +kernel
theorem d_mo_statementTold_16 : decode (q_cc m_mo_statementTold) 16 = .ok (.iload_n 1, 1) := by decide +kernel
theorem d_mo_statementTold_17 : decode (q_cc m_mo_statementTold) 17 = .ok (.invokevirtual 215, 3) := by decide +kernel
theorem d_mo_statementTold_20 : decode (q_cc m_mo_statementTold) 20 = .ok (.return_, 1) := by decide +kernel
theorem d_mo_statementTold_21 : decode (q_cc m_mo_statementTold) 21 = .ok (.aload_n 0, 1) := by decide +kernel
theorem d_mo_statementTold_22 : decode (q_cc m_mo_statementTold) 22 = .ok (.aload_n 0, 1) := by decide +kernel
theorem d_mo_statementTold_23 : decode (q_cc m_mo_statementTold) 23 = .ok (.getfield 21, 3) := by decide +kernel
theorem d_mo_statementTold_26 : decode (q_cc m_mo_statementTold) 26 = .ok (.invokevirtual 212, 3) := by decide +kernel
theorem d_mo_statementTold_29 : decode (q_cc m_mo_statementTold) 29 = .ok (.ifCond .eq 11, 3) := by decide +kernel
theorem d_mo_statementTold_32 : decode (q_cc m_mo_statementTold) 32 = .ok (.aload_n 0, 1) := by decide +kernel
theorem d_mo_statementTold_33 : decode (q_cc m_mo_statementTold) 33 = .ok (.iload_n 1, 1) := by decide +kernel
theorem d_mo_statementTold_34 : decode (q_cc m_mo_statementTold) 34 = .ok (.invokevirtual 292, 3) := by decide +kernel
theorem d_mo_statementTold_37 : decode (q_cc m_mo_statementTold) 37 = .ok (.goto 117, 3) := by decide +kernel
theorem d_mo_statementTold_40 : decode (q_cc m_mo_statementTold) 40 = .ok (.aload_n 0, 1) := by decide +kernel
theorem d_mo_statementTold_41 : decode (q_cc m_mo_statementTold) 41 = .ok (.aload_n 0, 1) := by decide +kernel
theorem d_mo_statementTold_42 : decode (q_cc m_mo_statementTold) 42 = .ok (.getfield 24, 3) := by decide +kernel
theorem d_mo_statementTold_45 : decode (q_cc m_mo_statementTold) 45 = .ok (.invokevirtual 212, 3) := by decide +kernel
theorem d_mo_statementTold_48 : decode (q_cc m_mo_statementTold) 48 = .ok (.ifCond .eq 11, 3) := by decide +kernel
theorem d_mo_statementTold_51 : decode (q_cc m_mo_statementTold) 51 = .ok (.aload_n 0, 1) := by decide +kernel
theorem d_mo_statementTold_52 : decode (q_cc m_mo_statementTold) 52 = .ok (.iload_n 1, 1) := by decide +kernel
theorem d_mo_statementTold_53 : decode (q_cc m_mo_statementTold) 53 = .ok (.invokevirtual 295, 3) := by decide +kernel
theorem d_mo_statementTold_56 : decode (q_cc m_mo_statementTold) 56 = .ok (.goto 98, 3) := by decide +kernel
theorem d_mo_statementTold_59 : decode (q_cc m_mo_statementTold) 59 = .ok (.aload_n 0, 1) := by decide +kernel
theorem d_mo_statementTold_60 : decode (q_cc m_mo_statementTold) 60 = .ok (.aload_n 0, 1) := by decide +kernel
theorem d_mo_statementTold_61 : decode (q_cc m_mo_statementTold) 61 = .ok (.getfield 33, 3) := by decide +kernel
theorem d_mo_statementTold_64 : decode (q_cc m_mo_statementTold) 64 = .ok (.invokevirtual 212, 3) := by decide +kernel
theorem d_mo_statementTold_67 : decode (q_cc m_mo_statementTold) 67 = .ok (.ifCond .eq 11, 3) := by decide +kernel
theorem d_mo_statementTold_70 : decode (q_cc m_mo_statementTold) 70 = .ok (.aload_n 0, 1) := by decide +kernel
theorem d_mo_statementTold_71 : decode (q_cc m_mo_statementTold) 71 = .ok (.iload_n 1, 1) := by decide +kernel
theorem d_mo_statementTold_72 : decode (q_cc m_mo_statementTold) 72 = .ok (.invokevirtual 298, 3) := by decide +kernel
theorem d_mo_statementTold_75 : decode (q_cc m_mo_statementTold) 75 = .ok (.goto 79, 3) := by decide +kernel
theorem d_mo_statementTold_78 : decode (q_cc m_mo_statementTold) 78 = .ok (.aload_n 0, 1) := by decide +kernel
theorem d_mo_statementTold_79 : decode (q_cc m_mo_statementTold) 79 = .ok (.aload_n 0, 1) := by decide +kernel
theorem d_mo_statementTold_80 : decode (q_cc m_mo_statementTold) 80 = .ok (.getfield 36, 3) := by decide +kernel
theorem d_mo_statementTold_83 : decode (q_cc m_mo_statementTold) 83 = .ok (.invokevirtual 212, 3) := by decide +kernel
theorem d_mo_statementTold_86 : decode (q_cc m_mo_statementTold) 86 = .ok (.ifCond .eq 11, 3) := by decide +kernel
theorem d_mo_statementTold_89 : decode (q_cc m_mo_statementTold) 89 = .ok (.aload_n 0, 1) := by decide +kernel
theorem d_mo_statementTold_90 : decode (q_cc m_mo_statementTold) 90 = .ok (.iload_n 1, 1) := by decide +kernel
theorem d_mo_statementTold_91 : decode (q_cc m_mo_statementTold) 91 = .ok (.invokevirtual 301, 3) := by decide +kernel
theorem d_mo_statementTold_94 : decode (q_cc m_mo_statementTold) 94 = .ok (.goto 60, 3) := by decide +kernel
theorem d_mo_statementTold_97 : decode (q_cc m_mo_statementTold) 97 = .ok (.aload_n 0, 1) := by decide +kernel
theorem d_mo_statementTold_98 : decode (q_cc m_mo_statementTold) 98 = .ok (.aload_n 0, 1) := by decide +kernel
theorem d_mo_statementTold_99 : decode (q_cc m_mo_statementTold) 99 = .ok (.getfield 39, 3) := by decide +kernel
theorem d_mo_statementTold_102 : decode (q_cc m_mo_statementTold) 102 = .ok (.invokevirtual 212, 3) := by decide +kernel
theorem d_mo_statementTold_105 : decode (q_cc m_mo_statementTold) 105 = .ok (.ifCond .eq 11, 3) := by decide +kernel
theorem d_mo_statementTold_108 : decode (q_cc m_mo_statementTold) 108 = .ok (.aload_n 0, 1) := by decide +kernel
theorem d_mo_statementTold_109 : decode (q_cc m_mo_statementTold) 109 = .ok (.iload_n 1, 1) := by decide +kernel
theorem d_mo_statementTold_110 : decode (q_cc m_mo_statementTold) 110 = .ok (.invokevirtual 304, 3) := by decide +kernel
theorem d_mo_statementTold_113 : decode (q_cc m_mo_statementTold) 113 = .ok (.goto 41, 3) := by decide +kernel
theorem d_mo_statementTold_116 : decode (q_cc m_mo_statementTold) 116 = .ok (.aload_n 0, 1) := by decide +kernel
theorem d_mo_statementTold_117 : decode (q_cc m_mo_statementTold) 117 = .ok (.aload_n 0, 1) := by decide +kernel
theorem d_mo_statementTold_118 : decode (q_cc m_mo_statementTold) 118 = .ok (.getfield 57, 3) := by decide +kernel
theorem d_mo_statementTold_121 : decode (q_cc m_mo_statementTold) 121 = .ok (.invokevirtual 212, 3) := by decide +kernel
theorem d_mo_statementTold_124 : decode (q_cc m_mo_statementTold) 124 = .ok (.ifCond .eq 11, 3) := by decide +kernel
theorem d_mo_statementTold_127 : decode (q_cc m_mo_statementTold) 127 = .ok (.aload_n 0, 1) := by decide +kernel
theorem d_mo_statementTold_128 : decode (q_cc m_mo_statementTold) 128 = .ok (.iload_n 1, 1) := by decide +kernel
theorem d_mo_statementTold_129 : decode (q_cc m_mo_statementTold) 129 = .ok (.invokevirtual 307, 3) := by decide +kernel
theorem d_mo_statementTold_132 : decode (q_cc m_mo_statementTold) 132 = .ok (.goto 22, 3) := by decide +kernel
theorem d_mo_statementTold_135 : decode (q_cc m_mo_statementTold) 135 = .ok (.aload_n 0, 1) := by decide +kernel
theorem d_mo_statementTold_136 : decode (q_cc m_mo_statementTold) 136 = .ok (.aload_n 0, 1) := by decide +kernel
theorem d_mo_statementTold_137 : decode (q_cc m_mo_statementTold) 137 = .ok (.getfield 63, 3) := by decide +kernel
theorem d_mo_statementTold_140 : decode (q_cc m_mo_statementTold) 140 = .ok (.invokevirtual 248, 3) := by decide +kernel
theorem d_mo_statementTold_143 : decode (q_cc m_mo_statementTold) 143 = .ok (.aload_n 0, 1) := by decide +kernel
theorem d_mo_statementTold_144 : decode (q_cc m_mo_statementTold) 144 = .ok (.aload_n 0, 1) := by decide +kernel
theorem d_mo_statementTold_145 : decode (q_cc m_mo_statementTold) 145 = .ok (.iconst 0, 1) := by decide +kernel
theorem d_mo_statementTold_146 : decode (q_cc m_mo_statementTold) 146 = .ok (.bipush 100, 2) := by decide +kernel
theorem d_mo_statementTold_148 : decode (q_cc m_mo_statementTold) 148 = .ok (.invokevirtual 256, 3) := by decide +kernel
theorem d_mo_statementTold_151 : decode (q_cc m_mo_statementTold) 151 = .ok (.putfield 310, 3) := by decide +kernel
theorem d_mo_statementTold_154 : decode (q_cc m_mo_statementTold) 154 = .ok (.aload_n 0, 1) := by decide +kernel
theorem d_mo_statementTold_155 : decode (q_cc m_mo_statementTold) 155 = .ok (.bipush 59, 2) := by decide +kernel
theorem d_mo_statementTold_157 : decode (q_cc m_mo_statementTold) 157 = .ok (.invokevirtual 260, 3) := by decide +kernel
theorem d_mo_statementTold_160 : decode (q_cc m_mo_statementTold) 160 = .ok (.aload_n 0, 1) := by decide +kernel
theorem d_mo_statementTold_161 : decode (q_cc m_mo_statementTold) 161 = .ok (.dup, 1) := by decide +kernel
theorem d_mo_statementTold_162 : decode (q_cc m_mo_statementTold) 162 = .ok (.getfield 264, 3) := by decide +kernel
theorem d_mo_statementTold_165 : decode (q_cc m_mo_statementTold) 165 = .ok (.iconst 1, 1) := by decide +kernel
theorem d_mo_statementTold_166 : decode (q_cc m_mo_statementTold) 166 = .ok (.iadd, 1) := by decide +kernel
theorem d_mo_statementTold_167 : decode (q_cc m_mo_statementTold) 167 = .ok (.putfield 264, 3) := by decide +kernel
theorem d_mo_statementTold_170 : decode (q_cc m_mo_statementTold) 170 = .ok (.return_, 1) := by decide +kernel
theorem d_mo_guild_0 : decode (q_cc m_mo_guild) 0 = .ok (.aload_n 0, 1) := by decide +kernel
theorem d_mo_guild_1 : decode (q_cc m_mo_guild) 1 = .ok (.aload_n 0, 1) := by decide +kernel
theorem d_mo_guild_2 : decode (q_cc m_mo_guild) 2 = .ok (.getfield 182, 3) := by decide +kernel
theorem d_mo_guild_5 : decode (q_cc m_mo_guild) 5 = .ok (.putfield 194, 3) := by decide +kernel
theorem d_mo_guild_8 : decode (q_cc m_mo_guild) 8 = .ok (.aload_n 0, 1) := by decide +kernel
theorem d_mo_guild_9 : decode (q_cc m_mo_guild) 9 = .ok (.iconst 0, 1) := by decide +kernel
theorem d_mo_guild_10 : decode (q_cc m_mo_guild) 10 = .ok (.putfield 182, 3) := by decide +kernel
theorem d_mo_guild_13 : decode (q_cc m_mo_guild) 13 = .ok (.aload_n 0, 1) := by decide +kernel
theorem d_mo_guild_14 : decode (q_cc m_mo_guild) 14 = .ok (.iconst 0, 1) := by decide +kernel
theorem d_mo_guild_15 : decode (q_cc m_mo_guild) 15 = .ok (.putfield 191, 3) := by decide +kernel
theorem d_mo_guild_18 : decode (q_cc m_mo_guild) 18 = .ok (.aload_n 0, 1) := by decide +kernel
theorem d_mo_guild_19 : decode (q_cc m_mo_guild) 19 = .ok (.iconst (-1), 1) := by decide +kernel
theorem d_mo_guild_20 : decode (q_cc m_mo_guild) 20 = .ok (.putfield 205, 3) := by decide +kernel
theorem d_mo_guild_23 : decode (q_cc m_mo_guild) 23 = .ok (.aload_n 0, 1) := by decide +kernel
theorem d_mo_guild_24 : decode (q_cc m_mo_guild) 24 = .ok (.iconst 0, 1) := by decide +kernel
theorem d_mo_guild_25 : decode (q_cc m_mo_guild) 25 = .ok (.putfield 185, 3) := by decide +kernel
theorem d_mo_guild_28 : decode (q_cc m_mo_guild) 28 = .ok (.aload_n 0, 1) := by decide +kernel
theorem d_mo_guild_29 : decode (q_cc m_mo_guild) 29 = .ok (.iconst (-1), 1) := by decide +kernel
theorem d_mo_guild_30 : decode (q_cc m_mo_guild) 30 = .ok (.putfield 188, 3) := by decide +kernel
theorem d_mo_guild_33 : decode (q_cc m_mo_guild) 33 = .ok (.aload_n 0, 1) := by decide +kernel
theorem d_mo_guild_34 : decode (q_cc m_mo_guild) 34 = .ok (.iconst 0, 1) := by decide +kernel
theorem d_mo_guild_35 : decode (q_cc m_mo_guild) 35 = .ok (.putfield 274, 3) := by decide +kernel
theorem d_mo_guild_38 : decode (q_cc m_mo_guild) 38 = .ok (.aload_n 0, 1) := by decide +kernel
theorem d_mo_guild_39 : decode (q_cc m_mo_guild) 39 = .ok (.iconst 0, 1) := by decide +kernel
theorem d_mo_guild_40 : decode (q_cc m_mo_guild) 40 = .ok (.putfield 310, 3) := by decide +kernel
theorem d_mo_guild_43 : decode (q_cc m_mo_guild) 43 = .ok (.iconst 0, 1) := by decide +kernel
theorem d_mo_guild_44 : decode (q_cc m_mo_guild) 44 = .ok (.istore_n 1, 1) := by decide +kernel
theorem d_mo_guild_45 : decode (q_cc m_mo_guild) 45 = .ok (.iload_n 1, 1) := by decide +kernel
theorem d_mo_guild_46 : decode (q_cc m_mo_guild) 46 = .ok (.bipush 7, 2) := by decide +kernel
theorem d_mo_guild_48 : decode (q_cc m_mo_guild) 48 = .ok (.if_icmp .ge 16, 3) := by decide +kernel
theorem d_mo_guild_51 : decode (q_cc m_mo_guild) 51 = .ok (.aload_n 0, 1) := by decide +kernel
theorem d_mo_guild_52 : decode (q_cc m_mo_guild) 52 = .ok (.getfield 93, 3) := by decide +kernel
theorem d_mo_guild_55 : decode (q_cc m_mo_guild) 55 = .ok (.iload_n 1, 1) := by decide +kernel
theorem d_mo_guild_56 : decode (q_cc m_mo_guild) 56 = .ok (.iconst 0, 1) := by decide +kernel
theorem d_mo_guild_57 : decode (q_cc m_mo_guild) 57 = .ok (.iastore, 1) := by decide +kernel
theorem d_mo_guild_58 : decode (q_cc m_mo_guild) 58 = .ok (.iinc 1 1, 3) := by decide +kernel
theorem d_mo_guild_61 : decode (q_cc m_mo_guild) 61 = .ok (.goto (-16), 3) := by decide +kernel
theorem d_mo_guild_64 : decode (q_cc m_mo_guild) 64 = .ok (.iconst 0, 1) := by decide +kernel
theorem d_mo_guild_65 : decode (q_cc m_mo_guild) 65 = .ok (.istore_n 1, 1) := by decide +kernel
theorem d_mo_guild_66 : decode (q_cc m_mo_guild) 66 = .ok (.iload_n 1, 1) := by decide +kernel
theorem d_mo_guild_67 : decode (q_cc m_mo_guild) 67 = .ok (.bipush 64, 2) := by decide +kernel
theorem d_mo_guild_69 : decode (q_cc m_mo_guild) 69 = .ok (.if_icmp .ge 33, 3) := by decide +kernel
theorem d_mo_guild_72 : decode (q_cc m_mo_guild) 72 = .ok (.aload_n 0, 1) := by decide +kernel
theorem d_mo_guild_73 : decode (q_cc m_mo_guild) 73 = .ok (.getfield 115, 3) := by decide +kernel
theorem d_mo_guild_76 : decode (q_cc m_mo_guild) 76 = .ok (.iload_n 1, 1) := by decide +kernel
theorem d_mo_guild_77 : decode (q_cc m_mo_guild) 77 = .ok (.iload_n 1, 1) := by decide +kernel
theorem d_mo_guild_78 : decode (q_cc m_mo_guild) 78 = .ok (.bipush 8, 2) := by decide +kernel
theorem d_mo_guild_80 : decode (q_cc m_mo_guild) 80 = .ok (.idiv, 1) := by decide +kernel
theorem d_mo_guild_81 : decode (q_cc m_mo_guild) 81 = .ok (.iload_n 1, 1) := by decide +kernel
theorem d_mo_guild_82 : decode (q_cc m_mo_guild) 82 = .ok (.bipush 8, 2) := by decide +kernel
theorem d_mo_guild_84 : decode (q_cc m_mo_guild) 84 = .ok (.irem, 1) := by decide +kernel
theorem d_mo_guild_85 : decode (q_cc m_mo_guild) 85 = .ok (.if_icmp .ne 7, 3) := by decide +kernel
theorem d_mo_guild_88 : decode (q_cc m_mo_guild) 88 = .ok (.iconst 0, 1) := by decide +kernel
theorem d_mo_guild_89 : decode (q_cc m_mo_guild) 89 = .ok (.goto 6, 3) := by decide +kernel
theorem d_mo_guild_92 : decode (q_cc m_mo_guild) 92 = .ok (.sipush 1000, 3) := by decide +kernel
theorem d_mo_guild_95 : decode (q_cc m_mo_guild) 95 = .ok (.iastore, 1) := by decide +kernel
theorem d_mo_guild_96 : decode (q_cc m_mo_guild) 96 = .ok (.iinc 1 1, 3) := by decide +kernel
theorem d_mo_guild_99 : decode (q_cc m_mo_guild) 99 = .ok (.goto (-33), 3) := by decide +kernel
theorem d_mo_guild_102 : decode (q_cc m_mo_guild) 102 = .ok (.aload_n 0, 1) := by decide +kernel
theorem d_mo_guild_103 : decode (q_cc m_mo_guild) 103 = .ok (.invokevirtual 313, 3) := by decide +kernel
theorem d_mo_guild_106 : decode (q_cc m_mo_guild) 106 = .ok (.aload_n 0, 1) := by decide +kernel
theorem d_mo_guild_107 : decode (q_cc m_mo_guild) 107 = .ok (.getfield 185, 3) := by decide +kernel
theorem d_mo_guild_110 : decode (q_cc m_mo_guild) 110 = .ok (.ifCond .ne 18, 3) := by decide +kernel
theorem d_mo_guild_113 : decode (q_cc m_mo_guild) 113 = .ok (.aload_n 0, 1) := by decide +kernel
theorem d_mo_guild_114 : decode (q_cc m_mo_guild) 114 = .ok (.invokevirtual 197, 3) := by decide +kernel
theorem d_mo_guild_117 : decode (q_cc m_mo_guild) 117 = .ok (.iconst (-1), 1) := by decide +kernel
theorem d_mo_guild_118 : decode (q_cc m_mo_guild) 118 = .ok (.if_icmp .eq 10, 3) := by decide +kernel
theorem d_mo_guild_121 : decode (q_cc m_mo_guild) 121 = .ok (.aload_n 0, 1) := by decide +kernel
theorem d_mo_guild_122 : decode (q_cc m_mo_guild) 122 = .ok (.invokevirtual 316, 3) := by decide +kernel
theorem d_mo_guild_125 : decode (q_cc m_mo_guild) 125 = .ok (.goto (-19), 3) := by decide +kernel
theorem d_mo_guild_128 : decode (q_cc m_mo_guild) 128 = .ok (.aload_n 0, 1) := by decide +kernel
theorem d_mo_guild_129 : decode (q_cc m_mo_guild) 129 = .ok (.aload_n 0, 1) := by decide +kernel
theorem d_mo_guild_130 : decode (q_cc m_mo_guild) 130 = .ok (.getfield 185, 3) := by decide +kernel
theorem d_mo_guild_133 : decode (q_cc m_mo_guild) 133 = .ok (.putfield 319, 3) := by decide +kernel
theorem d_mo_guild_136 : decode (q_cc m_mo_guild) 136 = .ok (.aload_n 0, 1) := by decide +kernel
theorem d_mo_guild_137 : decode (q_cc m_mo_guild) 137 = .ok (.aload_n 0, 1) := by decide +kernel
theorem d_mo_guild_138 : decode (q_cc m_mo_guild) 138 = .ok (.getfield 188, 3) := by decide +kernel
theorem d_mo_guild_141 : decode (q_cc m_mo_guild) 141 = .ok (.putfield 13, 3) := by decide +kernel
theorem d_mo_guild_144 : decode (q_cc m_mo_guild) 144 = .ok (.aload_n 0, 1) := by decide +kernel
theorem d_mo_guild_145 : decode (q_cc m_mo_guild) 145 = .ok (.getfield 185, 3) := by decide +kernel
theorem d_mo_guild_148 : decode (q_cc m_mo_guild) 148 = .ok (.ifCond .eq 5, 3) := by decide +kernel
theorem d_mo_guild_151 : decode (q_cc m_mo_guild) 151 = .ok (.iconst (-1), 1) := by decide +kernel
theorem d_mo_guild_152 : decode (q_cc m_mo_guild) 152 = .ok (.ireturn, 1) := by decide +kernel
theorem d_mo_guild_153 : decode (q_cc m_mo_guild) 153 = .ok (.aload_n 0, 1) := by decide +kernel
theorem d_mo_guild_154 : decode (q_cc m_mo_guild) 154 = .ok (.invokevirtual 322, 3) := by decide +kernel
theorem d_mo_guild_157 : decode (q_cc m_mo_guild) 157 = .ok (.aload_n 0, 1) := by decide +kernel
theorem d_mo_guild_158 : decode (q_cc m_mo_guild) 158 = .ok (.getfield 264, 3) := by decide +kernel
theorem d_mo_guild_161 : decode (q_cc m_mo_guild) 161 = .ok (.ireturn, 1) := by decide +kernel
theorem d_mo_stands_0 : decode (q_cc m_mo_stands) 0 = .ok (.iconst 0, 1) := by decide +kernel
theorem d_mo_stands_1 : decode (q_cc m_mo_stands) 1 = .ok (.istore_n 1, 1) := by decide +kernel
theorem d_mo_stands_2 : decode (q_cc m_mo_stands) 2 = .ok (.iload_n 1, 1) := by decide +kernel
theorem d_mo_stands_3 : decode (q_cc m_mo_stands) 3 = .ok (.bipush 7, 2) := by decide +kernel
theorem d_mo_stands_5 : decode (q_cc m_mo_stands) 5 = .ok (.if_icmp .ge 24, 3) := by decide +kernel
theorem d_mo_stands_8 : decode (q_cc m_mo_stands) 8 = .ok (.aload_n 0, 1) := by decide +kernel
theorem d_mo_stands_9 : decode (q_cc m_mo_stands) 9 = .ok (.getfield 93, 3) := by decide +kernel
theorem d_mo_stands_12 : decode (q_cc m_mo_stands) 12 = .ok (.bipush 7, 2) := by decide +kernel
theorem d_mo_stands_14 : decode (q_cc m_mo_stands) 14 = .ok (.iload_n 1, 1) := by decide +kernel
theorem d_mo_stands_15 : decode (q_cc m_mo_stands) 15 = .ok (.iadd, 1) := by decide +kernel
theorem d_mo_stands_16 : decode (q_cc m_mo_stands) 16 = .ok (.aload_n 0, 1) := by decide +kernel
theorem d_mo_stands_17 : decode (q_cc m_mo_stands) 17 = .ok (.getfield 93, 3) := by decide +kernel
theorem d_mo_stands_20 : decode (q_cc m_mo_stands) 20 = .ok (.iload_n 1, 1) := by decide +kernel
theorem d_mo_stands_21 : decode (q_cc m_mo_stands) 21 = .ok (.iaload, 1) := by decide +kernel
theorem d_mo_stands_22 : decode (q_cc m_mo_stands) 22 = .ok (.iastore, 1) := by decide +kernel
theorem d_mo_stands_23 : decode (q_cc m_mo_stands) 23 = .ok (.iinc 1 1, 3) := by decide +kernel
theorem d_mo_stands_26 : decode (q_cc m_mo_stands) 26 = .ok (.goto (-24), 3) := by decide +kernel
theorem d_mo_stands_29 : decode (q_cc m_mo_stands) 29 = .ok (.iconst 0, 1) := by decide +kernel
theorem d_mo_stands_30 : decode (q_cc m_mo_stands) 30 = .ok (.istore_n 1, 1) := by decide +kernel
theorem d_mo_stands_31 : decode (q_cc m_mo_stands) 31 = .ok (.iload_n 1, 1) := by decide +kernel
theorem d_mo_stands_32 : decode (q_cc m_mo_stands) 32 = .ok (.bipush 32, 2) := by decide +kernel
theorem d_mo_stands_34 : decode (q_cc m_mo_stands) 34 = .ok (.if_icmp .ge 24, 3) := by decide +kernel
theorem d_mo_stands_37 : decode (q_cc m_mo_stands) 37 = .ok (.aload_n 0, 1) := by decide +kernel
theorem d_mo_stands_38 : decode (q_cc m_mo_stands) 38 = .ok (.getfield 96, 3) := by decide +kernel
theorem d_mo_stands_41 : decode (q_cc m_mo_stands) 41 = .ok (.bipush 32, 2) := by decide +kernel
theorem d_mo_stands_43 : decode (q_cc m_mo_stands) 43 = .ok (.iload_n 1, 1) := by decide +kernel
theorem d_mo_stands_44 : decode (q_cc m_mo_stands) 44 = .ok (.iadd, 1) := by decide +kernel
theorem d_mo_stands_45 : decode (q_cc m_mo_stands) 45 = .ok (.aload_n 0, 1) := by decide +kernel
theorem d_mo_stands_46 : decode (q_cc m_mo_stands) 46 = .ok (.getfield 96, 3) := by decide +kernel
theorem d_mo_stands_49 : decode (q_cc m_mo_stands) 49 = .ok (.iload_n 1, 1) := by decide +kernel
theorem d_mo_stands_50 : decode (q_cc m_mo_stands) 50 = .ok (.laload, 1) := by decide +kernel
theorem d_mo_stands_51 : decode (q_cc m_mo_stands) 51 = .ok (.lastore, 1) := by decide +kernel
theorem d_mo_stands_52 : decode (q_cc m_mo_stands) 52 = .ok (.iinc 1 1, 3) := by decide +kernel
theorem d_mo_stands_55 : decode (q_cc m_mo_stands) 55 = .ok (.goto (-24), 3) := by decide +kernel
theorem d_mo_stands_58 : decode (q_cc m_mo_stands) 58 = .ok (.iconst 0, 1) := by decide +kernel
theorem d_mo_stands_59 : decode (q_cc m_mo_stands) 59 = .ok (.istore_n 1, 1) := by decide +kernel
theorem d_mo_stands_60 : decode (q_cc m_mo_stands) 60 = .ok (.iload_n 1, 1) := by decide +kernel
theorem d_mo_stands_61 : decode (q_cc m_mo_stands) 61 = .ok (.bipush 12, 2) := by decide +kernel
theorem d_mo_stands_63 : decode (q_cc m_mo_stands) 63 = .ok (.if_icmp .ge 24, 3) := by decide +kernel
theorem d_mo_stands_66 : decode (q_cc m_mo_stands) 66 = .ok (.aload_n 0, 1) := by decide +kernel
theorem d_mo_stands_67 : decode (q_cc m_mo_stands) 67 = .ok (.getfield 100, 3) := by decide +kernel
theorem d_mo_stands_70 : decode (q_cc m_mo_stands) 70 = .ok (.bipush 12, 2) := by decide +kernel
theorem d_mo_stands_72 : decode (q_cc m_mo_stands) 72 = .ok (.iload_n 1, 1) := by decide +kernel
theorem d_mo_stands_73 : decode (q_cc m_mo_stands) 73 = .ok (.iadd, 1) := by decide +kernel
theorem d_mo_stands_74 : decode (q_cc m_mo_stands) 74 = .ok (.aload_n 0, 1) := by decide +kernel
theorem d_mo_stands_75 : decode (q_cc m_mo_stands) 75 = .ok (.getfield 100, 3) := by decide +kernel
theorem d_mo_stands_78 : decode (q_cc m_mo_stands) 78 = .ok (.iload_n 1, 1) := by decide +kernel
theorem d_mo_stands_79 : decode (q_cc m_mo_stands) 79 = .ok (.iaload, 1) := by decide +kernel
theorem d_mo_stands_80 : decode (q_cc m_mo_stands) 80 = .ok (.iastore, 1) := by decide +kernel
theorem d_mo_stands_81 : decode (q_cc m_mo_stands) 81 = .ok (.iinc 1 1, 3) := by decide +kernel
theorem d_mo_stands_84 : decode (q_cc m_mo_stands) 84 = .ok (.goto (-24), 3) := by decide +kernel
theorem d_mo_stands_87 : decode (q_cc m_mo_stands) 87 = .ok (.iconst 0, 1) := by decide +kernel
theorem d_mo_stands_88 : decode (q_cc m_mo_stands) 88 = .ok (.istore_n 1, 1) := by decide +kernel
theorem d_mo_stands_89 : decode (q_cc m_mo_stands) 89 = .ok (.iload_n 1, 1) := by decide +kernel
theorem d_mo_stands_90 : decode (q_cc m_mo_stands) 90 = .ok (.bipush 48, 2) := by decide +kernel
theorem d_mo_stands_92 : decode (q_cc m_mo_stands) 92 = .ok (.if_icmp .ge 24, 3) := by decide +kernel
theorem d_mo_stands_95 : decode (q_cc m_mo_stands) 95 = .ok (.aload_n 0, 1) := by decide +kernel
theorem d_mo_stands_96 : decode (q_cc m_mo_stands) 96 = .ok (.getfield 103, 3) := by decide +kernel
theorem d_mo_stands_99 : decode (q_cc m_mo_stands) 99 = .ok (.bipush 48, 2) := by decide +kernel
theorem d_mo_stands_101 : decode (q_cc m_mo_stands) 101 = .ok (.iload_n 1, 1) := by decide +kernel
theorem d_mo_stands_102 : decode (q_cc m_mo_stands) 102 = .ok (.iadd, 1) := by decide +kernel
theorem d_mo_stands_103 : decode (q_cc m_mo_stands) 103 = .ok (.aload_n 0, 1) := by decide +kernel
theorem d_mo_stands_104 : decode (q_cc m_mo_stands) 104 = .ok (.getfield 103, 3) := by decide +kernel
theorem d_mo_stands_107 : decode (q_cc m_mo_stands) 107 = .ok (.iload_n 1, 1) := by decide +kernel
theorem d_mo_stands_108 : decode (q_cc m_mo_stands) 108 = .ok (.iaload, 1) := by decide +kernel
theorem d_mo_stands_109 : decode (q_cc m_mo_stands) 109 = .ok (.iastore, 1) := by decide +kernel
theorem d_mo_stands_110 : decode (q_cc m_mo_stands) 110 = .ok (.iinc 1 1, 3) := by decide +kernel
theorem d_mo_stands_113 : decode (q_cc m_mo_stands) 113 = .ok (.goto (-24), 3) := by decide +kernel
theorem d_mo_stands_116 : decode (q_cc m_mo_stands) 116 = .ok (.iconst 0, 1) := by decide +kernel
theorem d_mo_stands_117 : decode (q_cc m_mo_stands) 117 = .ok (.istore_n 1, 1) := by decide +kernel
theorem d_mo_stands_118 : decode (q_cc m_mo_stands) 118 = .ok (.iload_n 1, 1) := by decide +kernel
theorem d_mo_stands_119 : decode (q_cc m_mo_stands) 119 = .ok (.bipush 30, 2) := by decide +kernel
theorem d_mo_stands_121 : decode (q_cc m_mo_stands) 121 = .ok (.if_icmp .ge 39, 3) := by decide +kernel
theorem d_mo_stands_124 : decode (q_cc m_mo_stands) 124 = .ok (.aload_n 0, 1) := by decide +kernel
theorem d_mo_stands_125 : decode (q_cc m_mo_stands) 125 = .ok (.getfield 106, 3) := by decide +kernel
theorem d_mo_stands_128 : decode (q_cc m_mo_stands) 128 = .ok (.bipush 30, 2) := by decide +kernel
theorem d_mo_stands_130 : decode (q_cc m_mo_stands) 130 = .ok (.iload_n 1, 1) := by decide +kernel
theorem d_mo_stands_131 : decode (q_cc m_mo_stands) 131 = .ok (.iadd, 1) := by decide +kernel
theorem d_mo_stands_132 : decode (q_cc m_mo_stands) 132 = .ok (.aload_n 0, 1) := by decide +kernel
theorem d_mo_stands_133 : decode (q_cc m_mo_stands) 133 = .ok (.getfield 106, 3) := by decide +kernel
theorem d_mo_stands_136 : decode (q_cc m_mo_stands) 136 = .ok (.iload_n 1, 1) := by decide +kernel
theorem d_mo_stands_137 : decode (q_cc m_mo_stands) 137 = .ok (.iaload, 1) := by decide +kernel
theorem d_mo_stands_138 : decode (q_cc m_mo_stands) 138 = .ok (.iastore, 1) := by decide +kernel
theorem d_mo_stands_139 : decode (q_cc m_mo_stands) 139 = .ok (.aload_n 0, 1) := by decide +kernel
theorem d_mo_stands_140 : decode (q_cc m_mo_stands) 140 = .ok (.getfield 109, 3) := by decide +kernel
theorem d_mo_stands_143 : decode (q_cc m_mo_stands) 143 = .ok (.bipush 30, 2) := by decide +kernel
theorem d_mo_stands_145 : decode (q_cc m_mo_stands) 145 = .ok (.iload_n 1, 1) := by decide +kernel
theorem d_mo_stands_146 : decode (q_cc m_mo_stands) 146 = .ok (.iadd, 1) := by decide +kernel
theorem d_mo_stands_147 : decode (q_cc m_mo_stands) 147 = .ok (.aload_n 0, 1) := by decide +kernel
theorem d_mo_stands_148 : decode (q_cc m_mo_stands) 148 = .ok (.getfield 109, 3) := by decide +kernel
theorem d_mo_stands_151 : decode (q_cc m_mo_stands) 151 = .ok (.iload_n 1, 1) := by decide +kernel
theorem d_mo_stands_152 : decode (q_cc m_mo_stands) 152 = .ok (.iaload, 1) := by decide +kernel
theorem d_mo_stands_153 : decode (q_cc m_mo_stands) 153 = .ok (.iastore, 1) := by decide +kernel
theorem d_mo_stands_154 : decode (q_cc m_mo_stands) 154 = .ok (.iinc 1 1, 3) := by decide +kernel
theorem d_mo_stands_157 : decode (q_cc m_mo_stands) 157 = .ok (.goto (-39), 3) := by decide +kernel
theorem d_mo_stands_160 : decode (q_cc m_mo_stands) 160 = .ok (.iconst 0, 1) := by decide +kernel
theorem d_mo_stands_161 : decode (q_cc m_mo_stands) 161 = .ok (.istore_n 1, 1) := by decide +kernel
theorem d_mo_stands_162 : decode (q_cc m_mo_stands) 162 = .ok (.iload_n 1, 1) := by decide +kernel
theorem d_mo_stands_163 : decode (q_cc m_mo_stands) 163 = .ok (.iconst 5, 1) := by decide +kernel
theorem d_mo_stands_164 : decode (q_cc m_mo_stands) 164 = .ok (.if_icmp .ge 23, 3) := by decide +kernel
theorem d_mo_stands_167 : decode (q_cc m_mo_stands) 167 = .ok (.aload_n 0, 1) := by decide +kernel
theorem d_mo_stands_168 : decode (q_cc m_mo_stands) 168 = .ok (.getfield 112, 3) := by decide +kernel
theorem d_mo_stands_171 : decode (q_cc m_mo_stands) 171 = .ok (.iconst 5, 1) := by decide +kernel
theorem d_mo_stands_172 : decode (q_cc m_mo_stands) 172 = .ok (.iload_n 1, 1) := by decide +kernel
theorem d_mo_stands_173 : decode (q_cc m_mo_stands) 173 = .ok (.iadd, 1) := by decide +kernel
theorem d_mo_stands_174 : decode (q_cc m_mo_stands) 174 = .ok (.aload_n 0, 1) := by decide +kernel
theorem d_mo_stands_175 : decode (q_cc m_mo_stands) 175 = .ok (.getfield 112, 3) := by decide +kernel
theorem d_mo_stands_178 : decode (q_cc m_mo_stands) 178 = .ok (.iload_n 1, 1) := by decide +kernel
theorem d_mo_stands_179 : decode (q_cc m_mo_stands) 179 = .ok (.iaload, 1) := by decide +kernel
theorem d_mo_stands_180 : decode (q_cc m_mo_stands) 180 = .ok (.iastore, 1) := by decide +kernel
theorem d_mo_stands_181 : decode (q_cc m_mo_stands) 181 = .ok (.iinc 1 1, 3) := by decide +kernel
theorem d_mo_stands_184 : decode (q_cc m_mo_stands) 184 = .ok (.goto (-22), 3) := by decide +kernel
theorem d_mo_stands_187 : decode (q_cc m_mo_stands) 187 = .ok (.iconst 0, 1) := by decide +kernel
theorem d_mo_stands_188 : decode (q_cc m_mo_stands) 188 = .ok (.istore_n 1, 1) := by decide +kernel
theorem d_mo_stands_189 : decode (q_cc m_mo_stands) 189 = .ok (.iload_n 1, 1) := by decide +kernel
theorem d_mo_stands_190 : decode (q_cc m_mo_stands) 190 = .ok (.bipush 64, 2) := by decide +kernel
theorem d_mo_stands_192 : decode (q_cc m_mo_stands) 192 = .ok (.if_icmp .ge 24, 3) := by decide +kernel
theorem d_mo_stands_195 : decode (q_cc m_mo_stands) 195 = .ok (.aload_n 0, 1) := by decide +kernel
theorem d_mo_stands_196 : decode (q_cc m_mo_stands) 196 = .ok (.getfield 115, 3) := by decide +kernel
theorem d_mo_stands_199 : decode (q_cc m_mo_stands) 199 = .ok (.bipush 64, 2) := by decide +kernel
theorem d_mo_stands_201 : decode (q_cc m_mo_stands) 201 = .ok (.iload_n 1, 1) := by decide +kernel
theorem d_mo_stands_202 : decode (q_cc m_mo_stands) 202 = .ok (.iadd, 1) := by decide +kernel
theorem d_mo_stands_203 : decode (q_cc m_mo_stands) 203 = .ok (.aload_n 0, 1) := by decide +kernel
theorem d_mo_stands_204 : decode (q_cc m_mo_stands) 204 = .ok (.getfield 115, 3) := by decide +kernel
theorem d_mo_stands_207 : decode (q_cc m_mo_stands) 207 = .ok (.iload_n 1, 1) := by decide +kernel
theorem d_mo_stands_208 : decode (q_cc m_mo_stands) 208 = .ok (.iaload, 1) := by decide +kernel
theorem d_mo_stands_209 : decode (q_cc m_mo_stands) 209 = .ok (.iastore, 1) := by decide +kernel
theorem d_mo_stands_210 : decode (q_cc m_mo_stands) 210 = .ok (.iinc 1 1, 3) := by decide +kernel
theorem d_mo_stands_213 : decode (q_cc m_mo_stands) 213 = .ok (.goto (-24), 3) := by decide +kernel
theorem d_mo_stands_216 : decode (q_cc m_mo_stands) 216 = .ok (.iconst 0, 1) := by decide +kernel
theorem d_mo_stands_217 : decode (q_cc m_mo_stands) 217 = .ok (.istore_n 1, 1) := by decide +kernel
theorem d_mo_stands_218 : decode (q_cc m_mo_stands) 218 = .ok (.iload_n 1, 1) := by decide +kernel
theorem d_mo_stands_219 : decode (q_cc m_mo_stands) 219 = .ok (.bipush 120, 2) := by decide +kernel
theorem d_mo_stands_221 : decode (q_cc m_mo_stands) 221 = .ok (.if_icmp .ge 24, 3) := by decide +kernel
theorem d_mo_stands_224 : decode (q_cc m_mo_stands) 224 = .ok (.aload_n 0, 1) := by decide +kernel
theorem d_mo_stands_225 : decode (q_cc m_mo_stands) 225 = .ok (.getfield 118, 3) := by decide +kernel
theorem d_mo_stands_228 : decode (q_cc m_mo_stands) 228 = .ok (.bipush 120, 2) := by decide +kernel
theorem d_mo_stands_230 : decode (q_cc m_mo_stands) 230 = .ok (.iload_n 1, 1) := by decide +kernel
theorem d_mo_stands_231 : decode (q_cc m_mo_stands) 231 = .ok (.iadd, 1) := by decide +kernel
theorem d_mo_stands_232 : decode (q_cc m_mo_stands) 232 = .ok (.aload_n 0, 1) := by decide +kernel
theorem d_mo_stands_233 : decode (q_cc m_mo_stands) 233 = .ok (.getfield 118, 3) := by decide +kernel
theorem d_mo_stands_236 : decode (q_cc m_mo_stands) 236 = .ok (.iload_n 1, 1) := by decide +kernel
theorem d_mo_stands_237 : decode (q_cc m_mo_stands) 237 = .ok (.iaload, 1) := by decide +kernel
theorem d_mo_stands_238 : decode (q_cc m_mo_stands) 238 = .ok (.iastore, 1) := by decide +kernel
theorem d_mo_stands_239 : decode (q_cc m_mo_stands) 239 = .ok (.iinc 1 1, 3) := by decide +kernel
theorem d_mo_stands_242 : decode (q_cc m_mo_stands) 242 = .ok (.goto (-24), 3) := by decide +kernel
theorem d_mo_stands_245 : decode (q_cc m_mo_stands) 245 = .ok (.aload_n 0, 1) := by decide +kernel
theorem d_mo_stands_246 : decode (q_cc m_mo_stands) 246 = .ok (.aload_n 0, 1) := by decide +kernel
theorem d_mo_stands_247 : decode (q_cc m_mo_stands) 247 = .ok (.getfield 310, 3) := by decide +kernel
theorem d_mo_stands_250 : decode (q_cc m_mo_stands) 250 = .ok (.putfield 325, 3) := by decide +kernel
theorem d_mo_stands_253 : decode (q_cc m_mo_stands) 253 = .ok (.iconst 0, 1) := by decide +kernel
theorem d_mo_stands_254 : decode (q_cc m_mo_stands) 254 = .ok (.istore_n 1, 1) := by decide +kernel
theorem d_mo_stands_255 : decode (q_cc m_mo_stands) 255 = .ok (.iload_n 1, 1) := by decide +kernel
theorem d_mo_stands_256 : decode (q_cc m_mo_stands) 256 = .ok (.bipush 6, 2) := by decide +kernel
theorem d_mo_stands_258 : decode (q_cc m_mo_stands) 258 = .ok (.if_icmp .ge 54, 3) := by decide +kernel
theorem d_mo_stands_261 : decode (q_cc m_mo_stands) 261 = .ok (.aload_n 0, 1) := by decide +kernel
theorem d_mo_stands_262 : decode (q_cc m_mo_stands) 262 = .ok (.getfield 127, 3) := by decide +kernel
theorem d_mo_stands_265 : decode (q_cc m_mo_stands) 265 = .ok (.bipush 6, 2) := by decide +kernel
theorem d_mo_stands_267 : decode (q_cc m_mo_stands) 267 = .ok (.iload_n 1, 1) := by decide +kernel
theorem d_mo_stands_268 : decode (q_cc m_mo_stands) 268 = .ok (.iadd, 1) := by decide +kernel
theorem d_mo_stands_269 : decode (q_cc m_mo_stands) 269 = .ok (.aload_n 0, 1) := by decide +kernel
theorem d_mo_stands_270 : decode (q_cc m_mo_stands) 270 = .ok (.getfield 127, 3) := by decide +kernel
theorem d_mo_stands_273 : decode (q_cc m_mo_stands) 273 = .ok (.iload_n 1, 1) := by decide +kernel
theorem d_mo_stands_274 : decode (q_cc m_mo_stands) 274 = .ok (.iaload, 1) := by decide +kernel
theorem d_mo_stands_275 : decode (q_cc m_mo_stands) 275 = .ok (.iastore, 1) := by decide +kernel
theorem d_mo_stands_276 : decode (q_cc m_mo_stands) 276 = .ok (.aload_n 0, 1) := by decide +kernel
theorem d_mo_stands_277 : decode (q_cc m_mo_stands) 277 = .ok (.getfield 130, 3) := by decide +kernel
theorem d_mo_stands_280 : decode (q_cc m_mo_stands) 280 = .ok (.bipush 6, 2) := by decide +kernel
theorem d_mo_stands_282 : decode (q_cc m_mo_stands) 282 = .ok (.iload_n 1, 1) := by decide +kernel
theorem d_mo_stands_283 : decode (q_cc m_mo_stands) 283 = .ok (.iadd, 1) := by decide +kernel
theorem d_mo_stands_284 : decode (q_cc m_mo_stands) 284 = .ok (.aload_n 0, 1) := by decide +kernel
theorem d_mo_stands_285 : decode (q_cc m_mo_stands) 285 = .ok (.getfield 130, 3) := by decide +kernel
theorem d_mo_stands_288 : decode (q_cc m_mo_stands) 288 = .ok (.iload_n 1, 1) := by decide +kernel
theorem d_mo_stands_289 : decode (q_cc m_mo_stands) 289 = .ok (.iaload, 1) := by decide +kernel
theorem d_mo_stands_290 : decode (q_cc m_mo_stands) 290 = .ok (.iastore, 1) := by decide +kernel
theorem d_mo_stands_291 : decode (q_cc m_mo_stands) 291 = .ok (.aload_n 0, 1) := by decide +kernel
theorem d_mo_stands_292 : decode (q_cc m_mo_stands) 292 = .ok (.getfield 133, 3) := by decide +kernel
theorem d_mo_stands_295 : decode (q_cc m_mo_stands) 295 = .ok (.bipush 6, 2) := by decide +kernel
theorem d_mo_stands_297 : decode (q_cc m_mo_stands) 297 = .ok (.iload_n 1, 1) := by decide +kernel
theorem d_mo_stands_298 : decode (q_cc m_mo_stands) 298 = .ok (.iadd, 1) := by decide +kernel
theorem d_mo_stands_299 : decode (q_cc m_mo_stands) 299 = .ok (.aload_n 0, 1) := by decide +kernel
theorem d_mo_stands_300 : decode (q_cc m_mo_stands) 300 = .ok (.getfield 133, 3) := by decide +kernel
theorem d_mo_stands_303 : decode (q_cc m_mo_stands) 303 = .ok (.iload_n 1, 1) := by decide +kernel
theorem d_mo_stands_304 : decode (q_cc m_mo_stands) 304 = .ok (.iaload, 1) := by decide +kernel
theorem d_mo_stands_305 : decode (q_cc m_mo_stands) 305 = .ok (.iastore, 1) := by decide +kernel
theorem d_mo_stands_306 : decode (q_cc m_mo_stands) 306 = .ok (.iinc 1 1, 3) := by decide +kernel
theorem d_mo_stands_309 : decode (q_cc m_mo_stands) 309 = .ok (.goto (-54), 3) := by decide +kernel
theorem d_mo_stands_312 : decode (q_cc m_mo_stands) 312 = .ok (.iconst 0, 1) := by decide +kernel
theorem d_mo_stands_313 : decode (q_cc m_mo_stands) 313 = .ok (.istore_n 1, 1) := by decide +kernel
theorem d_mo_stands_314 : decode (q_cc m_mo_stands) 314 = .ok (.iload_n 1, 1) := by decide +kernel
theorem d_mo_stands_315 : decode (q_cc m_mo_stands) 315 = .ok (.aload_n 0, 1) := by decide +kernel
theorem d_mo_stands_316 : decode (q_cc m_mo_stands) 316 = .ok (.getfield 274, 3) := by decide +kernel
theorem d_mo_stands_319 : decode (q_cc m_mo_stands) 319 = .ok (.if_icmp .ge 25, 3) := by decide +kernel
theorem d_mo_stands_322 : decode (q_cc m_mo_stands) 322 = .ok (.aload_n 0, 1) := by decide +kernel
theorem d_mo_stands_323 : decode (q_cc m_mo_stands) 323 = .ok (.getfield 121, 3) := by decide +kernel
theorem d_mo_stands_326 : decode (q_cc m_mo_stands) 326 = .ok (.sipush 1600, 3) := by decide +kernel
theorem d_mo_stands_329 : decode (q_cc m_mo_stands) 329 = .ok (.iload_n 1, 1) := by decide +kernel
theorem d_mo_stands_330 : decode (q_cc m_mo_stands) 330 = .ok (.iadd, 1) := by decide +kernel
theorem d_mo_stands_331 : decode (q_cc m_mo_stands) 331 = .ok (.aload_n 0, 1) := by decide +kernel
theorem d_mo_stands_332 : decode (q_cc m_mo_stands) 332 = .ok (.getfield 121, 3) := by decide +kernel
theorem d_mo_stands_335 : decode (q_cc m_mo_stands) 335 = .ok (.iload_n 1, 1) := by decide +kernel
theorem d_mo_stands_336 : decode (q_cc m_mo_stands) 336 = .ok (.iaload, 1) := by decide +kernel
theorem d_mo_stands_337 : decode (q_cc m_mo_stands) 337 = .ok (.iastore, 1) := by decide +kernel
theorem d_mo_stands_338 : decode (q_cc m_mo_stands) 338 = .ok (.iinc 1 1, 3) := by decide +kernel
theorem d_mo_stands_341 : decode (q_cc m_mo_stands) 341 = .ok (.goto (-27), 3) := by decide +kernel
theorem d_mo_stands_344 : decode (q_cc m_mo_stands) 344 = .ok (.iconst 0, 1) := by decide +kernel
theorem d_mo_stands_345 : decode (q_cc m_mo_stands) 345 = .ok (.istore_n 1, 1) := by decide +kernel
theorem d_mo_stands_346 : decode (q_cc m_mo_stands) 346 = .ok (.iload_n 1, 1) := by decide +kernel
theorem d_mo_stands_347 : decode (q_cc m_mo_stands) 347 = .ok (.bipush 8, 2) := by decide +kernel
theorem d_mo_stands_349 : decode (q_cc m_mo_stands) 349 = .ok (.if_icmp .ge 103, 3) := by decide +kernel
theorem d_mo_stands_352 : decode (q_cc m_mo_stands) 352 = .ok (.iconst 0, 1) := by decide +kernel
theorem d_mo_stands_353 : decode (q_cc m_mo_stands) 353 = .ok (.istore_n 2, 1) := by decide +kernel
theorem d_mo_stands_354 : decode (q_cc m_mo_stands) 354 = .ok (.iload_n 2, 1) := by decide +kernel
theorem d_mo_stands_355 : decode (q_cc m_mo_stands) 355 = .ok (.bipush 8, 2) := by decide +kernel
theorem d_mo_stands_357 : decode (q_cc m_mo_stands) 357 = .ok (.if_icmp .ge 89, 3) := by decide +kernel
theorem d_mo_stands_360 : decode (q_cc m_mo_stands) 360 = .ok (.iconst 0, 1) := by decide +kernel
theorem d_mo_stands_361 : decode (q_cc m_mo_stands) 361 = .ok (.istore_n 3, 1) := by decide +kernel
theorem d_mo_stands_362 : decode (q_cc m_mo_stands) 362 = .ok (.iload_n 3, 1) := by decide +kernel
theorem d_mo_stands_363 : decode (q_cc m_mo_stands) 363 = .ok (.bipush 8, 2) := by decide +kernel
theorem d_mo_stands_365 : decode (q_cc m_mo_stands) 365 = .ok (.if_icmp .ge 75, 3) := by decide +kernel
theorem d_mo_stands_368 : decode (q_cc m_mo_stands) 368 = .ok (.aload_n 0, 1) := by decide +kernel
theorem d_mo_stands_369 : decode (q_cc m_mo_stands) 369 = .ok (.getfield 115, 3) := by decide +kernel
theorem d_mo_stands_372 : decode (q_cc m_mo_stands) 372 = .ok (.bipush 64, 2) := by decide +kernel
theorem d_mo_stands_374 : decode (q_cc m_mo_stands) 374 = .ok (.bipush 8, 2) := by decide +kernel
theorem d_mo_stands_376 : decode (q_cc m_mo_stands) 376 = .ok (.iload_n 2, 1) := by decide +kernel
theorem d_mo_stands_377 : decode (q_cc m_mo_stands) 377 = .ok (.imul, 1) := by decide +kernel
theorem d_mo_stands_378 : decode (q_cc m_mo_stands) 378 = .ok (.iadd, 1) := by decide +kernel
theorem d_mo_stands_379 : decode (q_cc m_mo_stands) 379 = .ok (.iload_n 1, 1) := by decide +kernel
theorem d_mo_stands_380 : decode (q_cc m_mo_stands) 380 = .ok (.iadd, 1) := by decide +kernel
theorem d_mo_stands_381 : decode (q_cc m_mo_stands) 381 = .ok (.iaload, 1) := by decide +kernel
theorem d_mo_stands_382 : decode (q_cc m_mo_stands) 382 = .ok (.aload_n 0, 1) := by decide +kernel
theorem d_mo_stands_383 : decode (q_cc m_mo_stands) 383 = .ok (.getfield 115, 3) := by decide +kernel
theorem d_mo_stands_386 : decode (q_cc m_mo_stands) 386 = .ok (.bipush 64, 2) := by decide +kernel
theorem d_mo_stands_388 : decode (q_cc m_mo_stands) 388 = .ok (.bipush 8, 2) := by decide +kernel
theorem d_mo_stands_390 : decode (q_cc m_mo_stands) 390 = .ok (.iload_n 1, 1) := by decide +kernel
theorem d_mo_stands_391 : decode (q_cc m_mo_stands) 391 = .ok (.imul, 1) := by decide +kernel
theorem d_mo_stands_392 : decode (q_cc m_mo_stands) 392 = .ok (.iadd, 1) := by decide +kernel
theorem d_mo_stands_393 : decode (q_cc m_mo_stands) 393 = .ok (.iload_n 3, 1) := by decide +kernel
theorem d_mo_stands_394 : decode (q_cc m_mo_stands) 394 = .ok (.iadd, 1) := by decide +kernel
theorem d_mo_stands_395 : decode (q_cc m_mo_stands) 395 = .ok (.iaload, 1) := by decide +kernel
theorem d_mo_stands_396 : decode (q_cc m_mo_stands) 396 = .ok (.iadd, 1) := by decide +kernel
theorem d_mo_stands_397 : decode (q_cc m_mo_stands) 397 = .ok (.istore 4, 2) := by decide +kernel
theorem d_mo_stands_399 : decode (q_cc m_mo_stands) 399 = .ok (.iload 4, 2) := by decide +kernel
theorem d_mo_stands_401 : decode (q_cc m_mo_stands) 401 = .ok (.aload_n 0, 1) := by decide +kernel
theorem d_mo_stands_402 : decode (q_cc m_mo_stands) 402 = .ok (.getfield 115, 3) := by decide +kernel
theorem d_mo_stands_405 : decode (q_cc m_mo_stands) 405 = .ok (.bipush 64, 2) := by decide +kernel
theorem d_mo_stands_407 : decode (q_cc m_mo_stands) 407 = .ok (.bipush 8, 2) := by decide +kernel
theorem d_mo_stands_409 : decode (q_cc m_mo_stands) 409 = .ok (.iload_n 2, 1) := by decide +kernel
theorem d_mo_stands_410 : decode (q_cc m_mo_stands) 410 = .ok (.imul, 1) := by decide +kernel
theorem d_mo_stands_411 : decode (q_cc m_mo_stands) 411 = .ok (.iadd, 1) := by decide +kernel
theorem d_mo_stands_412 : decode (q_cc m_mo_stands) 412 = .ok (.iload_n 3, 1) := by decide +kernel
theorem d_mo_stands_413 : decode (q_cc m_mo_stands) 413 = .ok (.iadd, 1) := by decide +kernel
theorem d_mo_stands_414 : decode (q_cc m_mo_stands) 414 = .ok (.iaload, 1) := by decide +kernel
theorem d_mo_stands_415 : decode (q_cc m_mo_stands) 415 = .ok (.if_icmp .ge 19, 3) := by decide +kernel
theorem d_mo_stands_418 : decode (q_cc m_mo_stands) 418 = .ok (.aload_n 0, 1) := by decide +kernel
theorem d_mo_stands_419 : decode (q_cc m_mo_stands) 419 = .ok (.getfield 115, 3) := by decide +kernel
theorem d_mo_stands_422 : decode (q_cc m_mo_stands) 422 = .ok (.bipush 64, 2) := by decide +kernel
theorem d_mo_stands_424 : decode (q_cc m_mo_stands) 424 = .ok (.bipush 8, 2) := by decide +kernel
theorem d_mo_stands_426 : decode (q_cc m_mo_stands) 426 = .ok (.iload_n 2, 1) := by decide +kernel
theorem d_mo_stands_427 : decode (q_cc m_mo_stands) 427 = .ok (.imul, 1) := by decide +kernel
theorem d_mo_stands_428 : decode (q_cc m_mo_stands) 428 = .ok (.iadd, 1) := by decide +kernel
theorem d_mo_stands_429 : decode (q_cc m_mo_stands) 429 = .ok (.iload_n 3, 1) := by decide +kernel
theorem d_mo_stands_430 : decode (q_cc m_mo_stands) 430 = .ok (.iadd, 1) := by decide +kernel
theorem d_mo_stands_431 : decode (q_cc m_mo_stands) 431 = .ok (.iload 4, 2) := by decide +kernel
theorem d_mo_stands_433 : decode (q_cc m_mo_stands) 433 = .ok (.iastore, 1) := by decide +kernel
theorem d_mo_stands_434 : decode (q_cc m_mo_stands) 434 = .ok (.iinc 3 1, 3) := by decide +kernel
theorem d_mo_stands_437 : decode (q_cc m_mo_stands) 437 = .ok (.goto (-75), 3) := by decide +kernel
theorem d_mo_stands_440 : decode (q_cc m_mo_stands) 440 = .ok (.iinc 2 1, 3) := by decide +kernel
theorem d_mo_stands_443 : decode (q_cc m_mo_stands) 443 = .ok (.goto (-89), 3) := by decide +kernel
theorem d_mo_stands_446 : decode (q_cc m_mo_stands) 446 = .ok (.iinc 1 1, 3) := by decide +kernel
theorem d_mo_stands_449 : decode (q_cc m_mo_stands) 449 = .ok (.goto (-103), 3) := by decide +kernel
theorem d_mo_stands_452 : decode (q_cc m_mo_stands) 452 = .ok (.iconst 0, 1) := by decide +kernel
theorem d_mo_stands_453 : decode (q_cc m_mo_stands) 453 = .ok (.istore_n 1, 1) := by decide +kernel
theorem d_mo_stands_454 : decode (q_cc m_mo_stands) 454 = .ok (.iload_n 1, 1) := by decide +kernel
theorem d_mo_stands_455 : decode (q_cc m_mo_stands) 455 = .ok (.aload_n 0, 1) := by decide +kernel
theorem d_mo_stands_456 : decode (q_cc m_mo_stands) 456 = .ok (.invokevirtual 328, 3) := by decide +kernel
theorem d_mo_stands_459 : decode (q_cc m_mo_stands) 459 = .ok (.if_icmp .ge 78, 3) := by decide +kernel
theorem d_mo_stands_462 : decode (q_cc m_mo_stands) 462 = .ok (.aload_n 0, 1) := by decide +kernel
theorem d_mo_stands_463 : decode (q_cc m_mo_stands) 463 = .ok (.getfield 148, 3) := by decide +kernel
theorem d_mo_stands_466 : decode (q_cc m_mo_stands) 466 = .ok (.iload_n 1, 1) := by decide +kernel
theorem d_mo_stands_467 : decode (q_cc m_mo_stands) 467 = .ok (.iconst (-1), 1) := by decide +kernel
theorem d_mo_stands_468 : decode (q_cc m_mo_stands) 468 = .ok (.iastore, 1) := by decide +kernel
theorem d_mo_stands_469 : decode (q_cc m_mo_stands) 469 = .ok (.aload_n 0, 1) := by decide +kernel
theorem d_mo_stands_470 : decode (q_cc m_mo_stands) 470 = .ok (.getfield 151, 3) := by decide +kernel
theorem d_mo_stands_473 : decode (q_cc m_mo_stands) 473 = .ok (.iload_n 1, 1) := by decide +kernel
theorem d_mo_stands_474 : decode (q_cc m_mo_stands) 474 = .ok (.iconst 0, 1) := by decide +kernel
theorem d_mo_stands_475 : decode (q_cc m_mo_stands) 475 = .ok (.iastore, 1) := by decide +kernel
theorem d_mo_stands_476 : decode (q_cc m_mo_stands) 476 = .ok (.iconst 0, 1) := by decide +kernel
theorem d_mo_stands_477 : decode (q_cc m_mo_stands) 477 = .ok (.istore_n 2, 1) := by decide +kernel
theorem d_mo_stands_478 : decode (q_cc m_mo_stands) 478 = .ok (.iload_n 2, 1) := by decide +kernel
theorem d_mo_stands_479 : decode (q_cc m_mo_stands) 479 = .ok (.aload_n 0, 1) := by decide +kernel
theorem d_mo_stands_480 : decode (q_cc m_mo_stands) 480 = .ok (.invokevirtual 328, 3) := by decide +kernel
theorem d_mo_stands_483 : decode (q_cc m_mo_stands) 483 = .ok (.if_icmp .ge 48, 3) := by decide +kernel
theorem d_mo_stands_486 : decode (q_cc m_mo_stands) 486 = .ok (.aload_n 0, 1) := by decide +kernel
theorem d_mo_stands_487 : decode (q_cc m_mo_stands) 487 = .ok (.aload_n 0, 1) := by decide +kernel
theorem d_mo_stands_488 : decode (q_cc m_mo_stands) 488 = .ok (.iload_n 1, 1) := by decide +kernel
theorem d_mo_stands_489 : decode (q_cc m_mo_stands) 489 = .ok (.invokevirtual 331, 3) := by decide +kernel
theorem d_mo_stands_492 : decode (q_cc m_mo_stands) 492 = .ok (.aload_n 0, 1) := by decide +kernel
theorem d_mo_stands_493 : decode (q_cc m_mo_stands) 493 = .ok (.iload_n 1, 1) := by decide +kernel
theorem d_mo_stands_494 : decode (q_cc m_mo_stands) 494 = .ok (.invokevirtual 334, 3) := by decide +kernel
theorem d_mo_stands_497 : decode (q_cc m_mo_stands) 497 = .ok (.aload_n 0, 1) := by decide +kernel
theorem d_mo_stands_498 : decode (q_cc m_mo_stands) 498 = .ok (.iload_n 2, 1) := by decide +kernel
theorem d_mo_stands_499 : decode (q_cc m_mo_stands) 499 = .ok (.invokevirtual 331, 3) := by decide +kernel
theorem d_mo_stands_502 : decode (q_cc m_mo_stands) 502 = .ok (.aload_n 0, 1) := by decide +kernel
theorem d_mo_stands_503 : decode (q_cc m_mo_stands) 503 = .ok (.iload_n 2, 1) := by decide +kernel
theorem d_mo_stands_504 : decode (q_cc m_mo_stands) 504 = .ok (.invokevirtual 334, 3) := by decide +kernel
theorem d_mo_stands_507 : decode (q_cc m_mo_stands) 507 = .ok (.invokevirtual 337, 3) := by decide +kernel
theorem d_mo_stands_510 : decode (q_cc m_mo_stands) 510 = .ok (.ifCond .eq 15, 3) := by decide +kernel
theorem d_mo_stands_513 : decode (q_cc m_mo_stands) 513 = .ok (.aload_n 0, 1) := by decide +kernel
theorem d_mo_stands_514 : decode (q_cc m_mo_stands) 514 = .ok (.getfield 151, 3) := by decide +kernel
theorem d_mo_stands_517 : decode (q_cc m_mo_stands) 517 = .ok (.iload_n 1, 1) := by decide +kernel
theorem d_mo_stands_518 : decode (q_cc m_mo_stands) 518 = .ok (.dup2, 1) := by decide +kernel
theorem d_mo_stands_519 : decode (q_cc m_mo_stands) 519 = .ok (.iaload, 1) := by decide +kernel
theorem d_mo_stands_520 : decode (q_cc m_mo_stands) 520 = .ok (.iconst 1, 1) := by decide +kernel
theorem d_mo_stands_521 : decode (q_cc m_mo_stands) 521 = .ok (.iload_n 2, 1) := by decide +kernel
theorem d_mo_stands_522 : decode (q_cc m_mo_stands) 522 = .ok (.ishl, 1) := by decide +kernel
theorem d_mo_stands_523 : decode (q_cc m_mo_stands) 523 = .ok (.ior, 1) := by decide +kernel
theorem d_mo_stands_524 : decode (q_cc m_mo_stands) 524 = .ok (.iastore, 1) := by decide +kernel
theorem d_mo_stands_525 : decode (q_cc m_mo_stands) 525 = .ok (.iinc 2 1, 3) := by decide +kernel
theorem d_mo_stands_528 : decode (q_cc m_mo_stands) 528 = .ok (.goto (-50), 3) := by decide +kernel
theorem d_mo_stands_531 : decode (q_cc m_mo_stands) 531 = .ok (.iinc 1 1, 3) := by decide +kernel
theorem d_mo_stands_534 : decode (q_cc m_mo_stands) 534 = .ok (.goto (-80), 3) := by decide +kernel
theorem d_mo_stands_537 : decode (q_cc m_mo_stands) 537 = .ok (.aload_n 0, 1) := by decide +kernel
theorem d_mo_stands_538 : decode (q_cc m_mo_stands) 538 = .ok (.iconst 0, 1) := by decide +kernel
theorem d_mo_stands_539 : decode (q_cc m_mo_stands) 539 = .ok (.putfield 341, 3) := by decide +kernel
theorem d_mo_stands_542 : decode (q_cc m_mo_stands) 542 = .ok (.aload_n 0, 1) := by decide +kernel
theorem d_mo_stands_543 : decode (q_cc m_mo_stands) 543 = .ok (.invokevirtual 344, 3) := by decide +kernel
theorem d_mo_stands_546 : decode (q_cc m_mo_stands) 546 = .ok (.return_, 1) := by decide +kernel
theorem d_mo_code_0 : decode (q_cc m_mo_code) 0 = .ok (.aload_n 0, 1) := by decide +kernel
theorem d_mo_code_1 : decode (q_cc m_mo_code) 1 = .ok (.getfield 121, 3) := by decide +kernel
theorem d_mo_code_4 : decode (q_cc m_mo_code) 4 = .ok (.iconst 0, 1) := by decide +kernel
theorem d_mo_code_5 : decode (q_cc m_mo_code) 5 = .ok (.aload_n 0, 1) := by decide +kernel
theorem d_mo_code_6 : decode (q_cc m_mo_code) 6 = .ok (.getfield 274, 3) := by decide +kernel
theorem d_mo_code_9 : decode (q_cc m_mo_code) 9 = .ok (.iadd, 1) := by decide +kernel
theorem d_mo_code_10 : decode (q_cc m_mo_code) 10 = .ok (.iload_n 1, 1) := by decide +kernel
theorem d_mo_code_11 : decode (q_cc m_mo_code) 11 = .ok (.iastore, 1) := by decide +kernel
theorem d_mo_code_12 : decode (q_cc m_mo_code) 12 = .ok (.aload_n 0, 1) := by decide +kernel
theorem d_mo_code_13 : decode (q_cc m_mo_code) 13 = .ok (.dup, 1) := by decide +kernel
theorem d_mo_code_14 : decode (q_cc m_mo_code) 14 = .ok (.getfield 274, 3) := by decide +kernel
theorem d_mo_code_17 : decode (q_cc m_mo_code) 17 = .ok (.iconst 1, 1) := by decide +kernel
theorem d_mo_code_18 : decode (q_cc m_mo_code) 18 = .ok (.iadd, 1) := by decide +kernel
theorem d_mo_code_19 : decode (q_cc m_mo_code) 19 = .ok (.putfield 274, 3) := by decide +kernel
theorem d_mo_code_22 : decode (q_cc m_mo_code) 22 = .ok (.return_, 1) := by decide +kernel
theorem d_mo_opens_0 : decode (q_cc m_mo_opens) 0 = .ok (.aload_n 0, 1) := by decide +kernel
theorem d_mo_opens_1 : decode (q_cc m_mo_opens) 1 = .ok (.getfield 280, 3) := by decide +kernel
theorem d_mo_opens_4 : decode (q_cc m_mo_opens) 4 = .ok (.bipush 6, 2) := by decide +kernel
theorem d_mo_opens_6 : decode (q_cc m_mo_opens) 6 = .ok (.if_icmp .ne 10, 3) := by decide +kernel
theorem d_mo_opens_9 : decode (q_cc m_mo_opens) 9 = .ok (.aload_n 0, 1) := by decide +kernel
theorem d_mo_opens_10 : decode (q_cc m_mo_opens) 10 = .ok (.iconst 4, 1) := by decide +kernel
theorem d_mo_opens_11 : decode (q_cc m_mo_opens) 11 = .ok (.iload_n 2, 1) := by decide +kernel
theorem d_mo_opens_12 : decode (q_cc m_mo_opens) 12 = .ok (.invokevirtual 215, 3) := by decide +kernel
theorem d_mo_opens_15 : decode (q_cc m_mo_opens) 15 = .ok (.return_, 1) := by decide +kernel
theorem d_mo_opens_16 : decode (q_cc m_mo_opens) 16 = .ok (.aload_n 0, 1) := by decide +kernel
theorem d_mo_opens_17 : decode (q_cc m_mo_opens) 17 = .ok (.dup, 1) := by decide +kernel
theorem d_mo_opens_18 : decode (q_cc m_mo_opens) 18 = .ok (.getfield 280, 3) := by decide +kernel
theorem d_mo_opens_21 : decode (q_cc m_mo_opens) 21 = .ok (.iconst 1, 1) := by decide +kernel
theorem d_mo_opens_22 : decode (q_cc m_mo_opens) 22 = .ok (.iadd, 1) := by decide +kernel
theorem d_mo_opens_23 : decode (q_cc m_mo_opens) 23 = .ok (.putfield 280, 3) := by decide +kernel
theorem d_mo_opens_26 : decode (q_cc m_mo_opens) 26 = .ok (.aload_n 0, 1) := by decide +kernel
theorem d_mo_opens_27 : decode (q_cc m_mo_opens) 27 = .ok (.getfield 124, 3) := by decide +kernel
theorem d_mo_opens_30 : decode (q_cc m_mo_opens) 30 = .ok (.aload_n 0, 1) := by decide +kernel
theorem d_mo_opens_31 : decode (q_cc m_mo_opens) 31 = .ok (.getfield 277, 3) := by decide +kernel
theorem d_mo_opens_34 : decode (q_cc m_mo_opens) 34 = .ok (.iload_n 1, 1) := by decide +kernel
theorem d_mo_opens_35 : decode (q_cc m_mo_opens) 35 = .ok (.iastore, 1) := by decide +kernel
theorem d_mo_opens_36 : decode (q_cc m_mo_opens) 36 = .ok (.aload_n 0, 1) := by decide +kernel
theorem d_mo_opens_37 : decode (q_cc m_mo_opens) 37 = .ok (.dup, 1) := by decide +kernel
theorem d_mo_opens_38 : decode (q_cc m_mo_opens) 38 = .ok (.getfield 277, 3) := by decide +kernel
theorem d_mo_opens_41 : decode (q_cc m_mo_opens) 41 = .ok (.iconst 1, 1) := by decide +kernel
theorem d_mo_opens_42 : decode (q_cc m_mo_opens) 42 = .ok (.iadd, 1) := by decide +kernel
theorem d_mo_opens_43 : decode (q_cc m_mo_opens) 43 = .ok (.putfield 277, 3) := by decide +kernel
theorem d_mo_opens_46 : decode (q_cc m_mo_opens) 46 = .ok (.return_, 1) := by decide +kernel
theorem d_mo_isOn_0 : decode (q_cc m_mo_isOn) 0 = .ok (.aload_n 0, 1) := by decide +kernel
theorem d_mo_isOn_1 : decode (q_cc m_mo_isOn) 1 = .ok (.getfield 277, 3) := by decide +kernel
theorem d_mo_isOn_4 : decode (q_cc m_mo_isOn) 4 = .ok (.ifCond .le 22, 3) := by decide +kernel
theorem d_mo_isOn_7 : decode (q_cc m_mo_isOn) 7 = .ok (.aload_n 0, 1) := by decide +kernel
theorem d_mo_isOn_8 : decode (q_cc m_mo_isOn) 8 = .ok (.getfield 124, 3) := by decide +kernel
theorem d_mo_isOn_11 : decode (q_cc m_mo_isOn) 11 = .ok (.aload_n 0, 1) := by decide +kernel
theorem d_mo_isOn_12 : decode (q_cc m_mo_isOn) 12 = .ok (.getfield 277, 3) := by decide +kernel
theorem d_mo_isOn_15 : decode (q_cc m_mo_isOn) 15 = .ok (.iconst 1, 1) := by decide +kernel
theorem d_mo_isOn_16 : decode (q_cc m_mo_isOn) 16 = .ok (.isub, 1) := by decide +kernel
theorem d_mo_isOn_17 : decode (q_cc m_mo_isOn) 17 = .ok (.iaload, 1) := by decide +kernel
theorem d_mo_isOn_18 : decode (q_cc m_mo_isOn) 18 = .ok (.iload_n 1, 1) := by decide +kernel
theorem d_mo_isOn_19 : decode (q_cc m_mo_isOn) 19 = .ok (.if_icmp .ne 7, 3) := by decide +kernel
theorem d_mo_isOn_22 : decode (q_cc m_mo_isOn) 22 = .ok (.iconst 1, 1) := by decide +kernel
theorem d_mo_isOn_23 : decode (q_cc m_mo_isOn) 23 = .ok (.goto 4, 3) := by decide +kernel
theorem d_mo_isOn_26 : decode (q_cc m_mo_isOn) 26 = .ok (.iconst 0, 1) := by decide +kernel
theorem d_mo_isOn_27 : decode (q_cc m_mo_isOn) 27 = .ok (.ireturn, 1) := by decide +kernel
theorem d_mo_drops_0 : decode (q_cc m_mo_drops) 0 = .ok (.aload_n 0, 1) := by decide +kernel
theorem d_mo_drops_1 : decode (q_cc m_mo_drops) 1 = .ok (.dup, 1) := by decide +kernel
theorem d_mo_drops_2 : decode (q_cc m_mo_drops) 2 = .ok (.getfield 277, 3) := by decide +kernel
theorem d_mo_drops_5 : decode (q_cc m_mo_drops) 5 = .ok (.iconst 1, 1) := by decide +kernel
theorem d_mo_drops_6 : decode (q_cc m_mo_drops) 6 = .ok (.isub, 1) := by decide +kernel
theorem d_mo_drops_7 : decode (q_cc m_mo_drops) 7 = .ok (.putfield 277, 3) := by decide +kernel
theorem d_mo_drops_10 : decode (q_cc m_mo_drops) 10 = .ok (.aload_n 0, 1) := by decide +kernel
theorem d_mo_drops_11 : decode (q_cc m_mo_drops) 11 = .ok (.aload_n 0, 1) := by decide +kernel
theorem d_mo_drops_12 : decode (q_cc m_mo_drops) 12 = .ok (.getfield 124, 3) := by decide +kernel
theorem d_mo_drops_15 : decode (q_cc m_mo_drops) 15 = .ok (.aload_n 0, 1) := by decide +kernel
theorem d_mo_drops_16 : decode (q_cc m_mo_drops) 16 = .ok (.getfield 277, 3) := by decide +kernel
theorem d_mo_drops_19 : decode (q_cc m_mo_drops) 19 = .ok (.iaload, 1) := by decide +kernel
theorem d_mo_drops_20 : decode (q_cc m_mo_drops) 20 = .ok (.invokevirtual 347, 3) := by decide +kernel
theorem d_mo_drops_23 : decode (q_cc m_mo_drops) 23 = .ok (.return_, 1) := by decide +kernel
theorem d_mo_isMark_0 : decode (q_cc m_mo_isMark) 0 = .ok (.iload_n 1, 1) := by decide +kernel
theorem d_mo_isMark_1 : decode (q_cc m_mo_isMark) 1 = .ok (.bipush 20, 2) := by decide +kernel
theorem d_mo_isMark_3 : decode (q_cc m_mo_isMark) 3 = .ok (.if_icmp .lt 13, 3) := by decide +kernel
theorem d_mo_isMark_6 : decode (q_cc m_mo_isMark) 6 = .ok (.iload_n 1, 1) := by decide +kernel
theorem d_mo_isMark_7 : decode (q_cc m_mo_isMark) 7 = .ok (.bipush 24, 2) := by decide +kernel
theorem d_mo_isMark_9 : decode (q_cc m_mo_isMark) 9 = .ok (.if_icmp .gt 7, 3) := by decide +kernel
theorem d_mo_isMark_12 : decode (q_cc m_mo_isMark) 12 = .ok (.iconst 1, 1) := by decide +kernel
theorem d_mo_isMark_13 : decode (q_cc m_mo_isMark) 13 = .ok (.goto 4, 3) := by decide +kernel
theorem d_mo_isMark_16 : decode (q_cc m_mo_isMark) 16 = .ok (.iconst 0, 1) := by decide +kernel
theorem d_mo_isMark_17 : decode (q_cc m_mo_isMark) 17 = .ok (.ireturn, 1) := by decide +kernel
theorem d_mo_mark_0 : decode (q_cc m_mo_mark) 0 = .ok (.aload_n 0, 1) := by decide +kernel
theorem d_mo_mark_1 : decode (q_cc m_mo_mark) 1 = .ok (.getfield 277, 3) := by decide +kernel
theorem d_mo_mark_4 : decode (q_cc m_mo_mark) 4 = .ok (.iconst 1, 1) := by decide +kernel
theorem d_mo_mark_5 : decode (q_cc m_mo_mark) 5 = .ok (.isub, 1) := by decide +kernel
theorem d_mo_mark_6 : decode (q_cc m_mo_mark) 6 = .ok (.istore_n 1, 1) := by decide +kernel
theorem d_mo_mark_7 : decode (q_cc m_mo_mark) 7 = .ok (.iload_n 1, 1) := by decide +kernel
theorem d_mo_mark_8 : decode (q_cc m_mo_mark) 8 = .ok (.aload_n 0, 1) := by decide +kernel
theorem d_mo_mark_9 : decode (q_cc m_mo_mark) 9 = .ok (.getfield 283, 3) := by decide +kernel
theorem d_mo_mark_12 : decode (q_cc m_mo_mark) 12 = .ok (.if_icmp .lt 22, 3) := by decide +kernel
theorem d_mo_mark_15 : decode (q_cc m_mo_mark) 15 = .ok (.aload_n 0, 1) := by decide +kernel
theorem d_mo_mark_16 : decode (q_cc m_mo_mark) 16 = .ok (.aload_n 0, 1) := by decide +kernel
theorem d_mo_mark_17 : decode (q_cc m_mo_mark) 17 = .ok (.getfield 124, 3) := by decide +kernel
theorem d_mo_mark_20 : decode (q_cc m_mo_mark) 20 = .ok (.iload_n 1, 1) := by decide +kernel
theorem d_mo_mark_21 : decode (q_cc m_mo_mark) 21 = .ok (.iaload, 1) := by decide +kernel
theorem d_mo_mark_22 : decode (q_cc m_mo_mark) 22 = .ok (.invokevirtual 350, 3) := by decide +kernel
theorem d_mo_mark_25 : decode (q_cc m_mo_mark) 25 = .ok (.ifCond .ne 9, 3) := by decide +kernel
theorem d_mo_mark_28 : decode (q_cc m_mo_mark) 28 = .ok (.iinc 1 (-1), 3) := by decide +kernel
theorem d_mo_mark_31 : decode (q_cc m_mo_mark) 31 = .ok (.goto (-24), 3) := by decide +kernel
theorem d_mo_mark_34 : decode (q_cc m_mo_mark) 34 = .ok (.iload_n 1, 1) := by decide +kernel
theorem d_mo_mark_35 : decode (q_cc m_mo_mark) 35 = .ok (.aload_n 0, 1) := by decide +kernel
theorem d_mo_mark_36 : decode (q_cc m_mo_mark) 36 = .ok (.getfield 283, 3) := by decide +kernel
theorem d_mo_mark_39 : decode (q_cc m_mo_mark) 39 = .ok (.if_icmp .lt 12, 3) := by decide +kernel
theorem d_mo_mark_42 : decode (q_cc m_mo_mark) 42 = .ok (.aload_n 0, 1) := by decide +kernel
theorem d_mo_mark_43 : decode (q_cc m_mo_mark) 43 = .ok (.getfield 124, 3) := by decide +kernel
theorem d_mo_mark_46 : decode (q_cc m_mo_mark) 46 = .ok (.iload_n 1, 1) := by decide +kernel
theorem d_mo_mark_47 : decode (q_cc m_mo_mark) 47 = .ok (.iaload, 1) := by decide +kernel
theorem d_mo_mark_48 : decode (q_cc m_mo_mark) 48 = .ok (.goto 4, 3) := by decide +kernel
theorem d_mo_mark_51 : decode (q_cc m_mo_mark) 51 = .ok (.iconst (-1), 1) := by decide +kernel
theorem d_mo_mark_52 : decode (q_cc m_mo_mark) 52 = .ok (.ireturn, 1) := by decide +kernel
theorem d_mo_dropsToMark_0 : decode (q_cc m_mo_dropsToMark) 0 = .ok (.aload_n 0, 1) := by decide +kernel
theorem d_mo_dropsToMark_1 : decode (q_cc m_mo_dropsToMark) 1 = .ok (.getfield 277, 3) := by decide +kernel
theorem d_mo_dropsToMark_4 : decode (q_cc m_mo_dropsToMark) 4 = .ok (.aload_n 0, 1) := by decide +kernel
theorem d_mo_dropsToMark_5 : decode (q_cc m_mo_dropsToMark) 5 = .ok (.getfield 283, 3) := by decide +kernel
theorem d_mo_dropsToMark_8 : decode (q_cc m_mo_dropsToMark) 8 = .ok (.if_icmp .le 28, 3) := by decide +kernel
theorem d_mo_dropsToMark_11 : decode (q_cc m_mo_dropsToMark) 11 = .ok (.aload_n 0, 1) := by decide +kernel
theorem d_mo_dropsToMark_12 : decode (q_cc m_mo_dropsToMark) 12 = .ok (.aload_n 0, 1) := by decide +kernel
theorem d_mo_dropsToMark_13 : decode (q_cc m_mo_dropsToMark) 13 = .ok (.getfield 124, 3) := by decide +kernel
theorem d_mo_dropsToMark_16 : decode (q_cc m_mo_dropsToMark) 16 = .ok (.aload_n 0, 1) := by decide +kernel
theorem d_mo_dropsToMark_17 : decode (q_cc m_mo_dropsToMark) 17 = .ok (.getfield 277, 3) := by decide +kernel
theorem d_mo_dropsToMark_20 : decode (q_cc m_mo_dropsToMark) 20 = .ok (.iconst 1, 1) := by decide +kernel
theorem d_mo_dropsToMark_21 : decode (q_cc m_mo_dropsToMark) 21 = .ok (.isub, 1) := by decide +kernel
theorem d_mo_dropsToMark_22 : decode (q_cc m_mo_dropsToMark) 22 = .ok (.iaload, 1) := by decide +kernel
theorem d_mo_dropsToMark_23 : decode (q_cc m_mo_dropsToMark) 23 = .ok (.invokevirtual 350, 3) := by decide +kernel
theorem d_mo_dropsToMark_26 : decode (q_cc m_mo_dropsToMark) 26 = .ok (.ifCond .ne 10, 3) := by decide +kernel
theorem d_mo_dropsToMark_29 : decode (q_cc m_mo_dropsToMark) 29 = .ok (.aload_n 0, 1) := by decide +kernel
theorem d_mo_dropsToMark_30 : decode (q_cc m_mo_dropsToMark) 30 = .ok (.invokevirtual 353, 3) := by decide +kernel
theorem d_mo_dropsToMark_33 : decode (q_cc m_mo_dropsToMark) 33 = .ok (.goto (-33), 3) := by decide +kernel
theorem d_mo_dropsToMark_36 : decode (q_cc m_mo_dropsToMark) 36 = .ok (.return_, 1) := by decide +kernel
theorem d_mo_onePart_0 : decode (q_cc m_mo_onePart) 0 = .ok (.iconst 1, 1) := by decide +kernel
theorem d_mo_onePart_1 : decode (q_cc m_mo_onePart) 1 = .ok (.istore_n 1, 1) := by decide +kernel
theorem d_mo_onePart_2 : decode (q_cc m_mo_onePart) 2 = .ok (.iload_n 1, 1) := by decide +kernel
theorem d_mo_onePart_3 : decode (q_cc m_mo_onePart) 3 = .ok (.ifCond .eq 143, 3) := by decide +kernel
theorem d_mo_onePart_6 : decode (q_cc m_mo_onePart) 6 = .ok (.aload_n 0, 1) := by decide +kernel
theorem d_mo_onePart_7 : decode (q_cc m_mo_onePart) 7 = .ok (.getfield 185, 3) := by decide +kernel
theorem d_mo_onePart_10 : decode (q_cc m_mo_onePart) 10 = .ok (.ifCond .ne 136, 3) := by decide +kernel
theorem d_mo_onePart_13 : decode (q_cc m_mo_onePart) 13 = .ok (.aload_n 0, 1) := by decide +kernel
theorem d_mo_onePart_14 : decode (q_cc m_mo_onePart) 14 = .ok (.invokevirtual 197, 3) := by decide +kernel
theorem d_mo_onePart_17 : decode (q_cc m_mo_onePart) 17 = .ok (.istore_n 2, 1) := by decide +kernel
theorem d_mo_onePart_18 : decode (q_cc m_mo_onePart) 18 = .ok (.iload_n 2, 1) := by decide +kernel
theorem d_mo_onePart_19 : decode (q_cc m_mo_onePart) 19 = .ok (.bipush 40, 2) := by decide +kernel
theorem d_mo_onePart_21 : decode (q_cc m_mo_onePart) 21 = .ok (.if_icmp .ne 26, 3) := by decide +kernel
theorem d_mo_onePart_24 : decode (q_cc m_mo_onePart) 24 = .ok (.aload_n 0, 1) := by decide +kernel
theorem d_mo_onePart_25 : decode (q_cc m_mo_onePart) 25 = .ok (.bipush 20, 2) := by decide +kernel
theorem d_mo_onePart_27 : decode (q_cc m_mo_onePart) 27 = .ok (.aload_n 0, 1) := by decide +kernel
theorem d_mo_onePart_28 : decode (q_cc m_mo_onePart) 28 = .ok (.getfield 191, 3) := by decide +kernel
theorem d_mo_onePart_31 : decode (q_cc m_mo_onePart) 31 = .ok (.invokevirtual 356, 3) := by decide +kernel
theorem d_mo_onePart_34 : decode (q_cc m_mo_onePart) 34 = .ok (.aload_n 0, 1) := by decide +kernel
theorem d_mo_onePart_35 : decode (q_cc m_mo_onePart) 35 = .ok (.dup, 1) := by decide +kernel
theorem d_mo_onePart_36 : decode (q_cc m_mo_onePart) 36 = .ok (.getfield 191, 3) := by decide +kernel
theorem d_mo_onePart_39 : decode (q_cc m_mo_onePart) 39 = .ok (.iconst 1, 1) := by decide +kernel
theorem d_mo_onePart_40 : decode (q_cc m_mo_onePart) 40 = .ok (.iadd, 1) := by decide +kernel
theorem d_mo_onePart_41 : decode (q_cc m_mo_onePart) 41 = .ok (.putfield 191, 3) := by decide +kernel
theorem d_mo_onePart_44 : decode (q_cc m_mo_onePart) 44 = .ok (.goto 99, 3) := by decide +kernel
theorem d_mo_onePart_47 : decode (q_cc m_mo_onePart) 47 = .ok (.aload_n 0, 1) := by decide +kernel
theorem d_mo_onePart_48 : decode (q_cc m_mo_onePart) 48 = .ok (.aload_n 0, 1) := by decide +kernel
theorem d_mo_onePart_49 : decode (q_cc m_mo_onePart) 49 = .ok (.getfield 87, 3) := by decide +kernel
theorem d_mo_onePart_52 : decode (q_cc m_mo_onePart) 52 = .ok (.invokevirtual 208, 3) := by decide +kernel
theorem d_mo_onePart_55 : decode (q_cc m_mo_onePart) 55 = .ok (.ifCond .ne 14, 3) := by decide +kernel
theorem d_mo_onePart_58 : decode (q_cc m_mo_onePart) 58 = .ok (.aload_n 0, 1) := by decide +kernel
theorem d_mo_onePart_59 : decode (q_cc m_mo_onePart) 59 = .ok (.aload_n 0, 1) := by decide +kernel
theorem d_mo_onePart_60 : decode (q_cc m_mo_onePart) 60 = .ok (.getfield 90, 3) := by decide +kernel
theorem d_mo_onePart_63 : decode (q_cc m_mo_onePart) 63 = .ok (.invokevirtual 208, 3) := by decide +kernel
theorem d_mo_onePart_66 : decode (q_cc m_mo_onePart) 66 = .ok (.ifCond .eq 75, 3) := by decide +kernel
theorem d_mo_onePart_69 : decode (q_cc m_mo_onePart) 69 = .ok (.aload_n 0, 1) := by decide +kernel
theorem d_mo_onePart_70 : decode (q_cc m_mo_onePart) 70 = .ok (.aload_n 0, 1) := by decide +kernel
theorem d_mo_onePart_71 : decode (q_cc m_mo_onePart) 71 = .ok (.getfield 87, 3) := by decide +kernel
theorem d_mo_onePart_74 : decode (q_cc m_mo_onePart) 74 = .ok (.invokevirtual 212, 3) := by decide +kernel
theorem d_mo_onePart_77 : decode (q_cc m_mo_onePart) 77 = .ok (.istore_n 3, 1) := by decide +kernel
theorem d_mo_onePart_78 : decode (q_cc m_mo_onePart) 78 = .ok (.iload_n 3, 1) := by decide +kernel
theorem d_mo_onePart_79 : decode (q_cc m_mo_onePart) 79 = .ok (.ifCond .ne 11, 3) := by decide +kernel
theorem d_mo_onePart_82 : decode (q_cc m_mo_onePart) 82 = .ok (.aload_n 0, 1) := by decide +kernel
theorem d_mo_onePart_83 : decode (q_cc m_mo_onePart) 83 = .ok (.aload_n 0, 1) := by decide +kernel
theorem d_mo_onePart_84 : decode (q_cc m_mo_onePart) 84 = .ok (.getfield 90, 3) := by decide +kernel
theorem d_mo_onePart_87 : decode (q_cc m_mo_onePart) 87 = .ok (.invokevirtual 248, 3) := by decide +kernel
theorem d_mo_onePart_90 : decode (q_cc m_mo_onePart) 90 = .ok (.aload_n 0, 1) := by decide +kernel
theorem d_mo_onePart_91 : decode (q_cc m_mo_onePart) 91 = .ok (.invokevirtual 197, 3) := by decide +kernel
theorem d_mo_onePart_94 : decode (q_cc m_mo_onePart) 94 = .ok (.bipush 40, 2) := by decide +kernel
theorem d_mo_onePart_96 : decode (q_cc m_mo_onePart) 96 = .ok (.if_icmp .ne 10, 3) := by decide +kernel
theorem d_mo_onePart_99 : decode (q_cc m_mo_onePart) 99 = .ok (.aload_n 0, 1) := by decide +kernel
theorem d_mo_onePart_100 : decode (q_cc m_mo_onePart) 100 = .ok (.getfield 191, 3) := by decide +kernel
theorem d_mo_onePart_103 : decode (q_cc m_mo_onePart) 103 = .ok (.goto 4, 3) := by decide +kernel
theorem d_mo_onePart_106 : decode (q_cc m_mo_onePart) 106 = .ok (.iconst (-1), 1) := by decide +kernel
theorem d_mo_onePart_107 : decode (q_cc m_mo_onePart) 107 = .ok (.istore 4, 2) := by decide +kernel
theorem d_mo_onePart_109 : decode (q_cc m_mo_onePart) 109 = .ok (.iload 4, 2) := by decide +kernel
theorem d_mo_onePart_111 : decode (q_cc m_mo_onePart) 111 = .ok (.iconst (-1), 1) := by decide +kernel
theorem d_mo_onePart_112 : decode (q_cc m_mo_onePart) 112 = .ok (.if_icmp .eq 20, 3) := by decide +kernel
theorem d_mo_onePart_115 : decode (q_cc m_mo_onePart) 115 = .ok (.aload_n 0, 1) := by decide +kernel
theorem d_mo_onePart_116 : decode (q_cc m_mo_onePart) 116 = .ok (.iload_n 3, 1) := by decide +kernel
theorem d_mo_onePart_117 : decode (q_cc m_mo_onePart) 117 = .ok (.ifCond .eq 8, 3) := by decide +kernel
theorem d_mo_onePart_120 : decode (q_cc m_mo_onePart) 120 = .ok (.bipush 21, 2) := by decide +kernel
theorem d_mo_onePart_122 : decode (q_cc m_mo_onePart) 122 = .ok (.goto 5, 3) := by decide +kernel
theorem d_mo_onePart_125 : decode (q_cc m_mo_onePart) 125 = .ok (.bipush 22, 2) := by decide +kernel
theorem d_mo_onePart_127 : decode (q_cc m_mo_onePart) 127 = .ok (.iload 4, 2) := by decide +kernel
theorem d_mo_onePart_129 : decode (q_cc m_mo_onePart) 129 = .ok (.invokevirtual 356, 3) := by decide +kernel
theorem d_mo_onePart_132 : decode (q_cc m_mo_onePart) 132 = .ok (.aload_n 0, 1) := by decide +kernel
theorem d_mo_onePart_133 : decode (q_cc m_mo_onePart) 133 = .ok (.bipush 40, 2) := by decide +kernel
theorem d_mo_onePart_135 : decode (q_cc m_mo_onePart) 135 = .ok (.invokevirtual 260, 3) := by decide +kernel
theorem d_mo_onePart_138 : decode (q_cc m_mo_onePart) 138 = .ok (.goto 5, 3) := by decide +kernel
theorem d_mo_onePart_141 : decode (q_cc m_mo_onePart) 141 = .ok (.iconst 0, 1) := by decide +kernel
theorem d_mo_onePart_142 : decode (q_cc m_mo_onePart) 142 = .ok (.istore_n 1, 1) := by decide +kernel
theorem d_mo_onePart_143 : decode (q_cc m_mo_onePart) 143 = .ok (.goto (-141), 3) := by decide +kernel
theorem d_mo_onePart_146 : decode (q_cc m_mo_onePart) 146 = .ok (.aload_n 0, 1) := by decide +kernel
theorem d_mo_onePart_147 : decode (q_cc m_mo_onePart) 147 = .ok (.getfield 185, 3) := by decide +kernel
theorem d_mo_onePart_150 : decode (q_cc m_mo_onePart) 150 = .ok (.ifCond .eq 4, 3) := by decide +kernel
theorem d_mo_onePart_153 : decode (q_cc m_mo_onePart) 153 = .ok (.return_, 1) := by decide +kernel
theorem d_mo_onePart_154 : decode (q_cc m_mo_onePart) 154 = .ok (.aload_n 0, 1) := by decide +kernel
theorem d_mo_onePart_155 : decode (q_cc m_mo_onePart) 155 = .ok (.aload_n 0, 1) := by decide +kernel
theorem d_mo_onePart_156 : decode (q_cc m_mo_onePart) 156 = .ok (.getfield 27, 3) := by decide +kernel
theorem d_mo_onePart_159 : decode (q_cc m_mo_onePart) 159 = .ok (.invokevirtual 212, 3) := by decide +kernel
theorem d_mo_onePart_162 : decode (q_cc m_mo_onePart) 162 = .ok (.ifCond .eq 8, 3) := by decide +kernel
theorem d_mo_onePart_165 : decode (q_cc m_mo_onePart) 165 = .ok (.bipush 7, 2) := by decide +kernel
theorem d_mo_onePart_167 : decode (q_cc m_mo_onePart) 167 = .ok (.goto 36, 3) := by decide +kernel
theorem d_mo_onePart_170 : decode (q_cc m_mo_onePart) 170 = .ok (.aload_n 0, 1) := by decide +kernel
theorem d_mo_onePart_171 : decode (q_cc m_mo_onePart) 171 = .ok (.aload_n 0, 1) := by decide +kernel
theorem d_mo_onePart_172 : decode (q_cc m_mo_onePart) 172 = .ok (.getfield 45, 3) := by decide +kernel
theorem d_mo_onePart_175 : decode (q_cc m_mo_onePart) 175 = .ok (.invokevirtual 212, 3) := by decide +kernel
theorem d_mo_onePart_178 : decode (q_cc m_mo_onePart) 178 = .ok (.ifCond .eq 8, 3) := by decide +kernel
theorem d_mo_onePart_181 : decode (q_cc m_mo_onePart) 181 = .ok (.bipush 8, 2) := by decide +kernel
theorem d_mo_onePart_183 : decode (q_cc m_mo_onePart) 183 = .ok (.goto 20, 3) := by decide +kernel
theorem d_mo_onePart_186 : decode (q_cc m_mo_onePart) 186 = .ok (.aload_n 0, 1) := by decide +kernel
theorem d_mo_onePart_187 : decode (q_cc m_mo_onePart) 187 = .ok (.aload_n 0, 1) := by decide +kernel
theorem d_mo_onePart_188 : decode (q_cc m_mo_onePart) 188 = .ok (.getfield 48, 3) := by decide +kernel
theorem d_mo_onePart_191 : decode (q_cc m_mo_onePart) 191 = .ok (.invokevirtual 212, 3) := by decide +kernel
theorem d_mo_onePart_194 : decode (q_cc m_mo_onePart) 194 = .ok (.ifCond .eq 8, 3) := by decide +kernel
theorem d_mo_onePart_197 : decode (q_cc m_mo_onePart) 197 = .ok (.bipush 9, 2) := by decide +kernel
theorem d_mo_onePart_199 : decode (q_cc m_mo_onePart) 199 = .ok (.goto 4, 3) := by decide +kernel
theorem d_mo_onePart_202 : decode (q_cc m_mo_onePart) 202 = .ok (.iconst (-1), 1) := by decide +kernel
theorem d_mo_onePart_203 : decode (q_cc m_mo_onePart) 203 = .ok (.istore_n 2, 1) := by decide +kernel
theorem d_mo_onePart_204 : decode (q_cc m_mo_onePart) 204 = .ok (.iload_n 2, 1) := by decide +kernel
theorem d_mo_onePart_205 : decode (q_cc m_mo_onePart) 205 = .ok (.iconst (-1), 1) := by decide +kernel
theorem d_mo_onePart_206 : decode (q_cc m_mo_onePart) 206 = .ok (.if_icmp .ne 53, 3) := by decide +kernel
theorem d_mo_onePart_209 : decode (q_cc m_mo_onePart) 209 = .ok (.aload_n 0, 1) := by decide +kernel
theorem d_mo_onePart_210 : decode (q_cc m_mo_onePart) 210 = .ok (.aload_n 0, 1) := by decide +kernel
theorem d_mo_onePart_211 : decode (q_cc m_mo_onePart) 211 = .ok (.getfield 78, 3) := by decide +kernel
theorem d_mo_onePart_214 : decode (q_cc m_mo_onePart) 214 = .ok (.invokevirtual 212, 3) := by decide +kernel
theorem d_mo_onePart_217 : decode (q_cc m_mo_onePart) 217 = .ok (.ifCond .eq 8, 3) := by decide +kernel
theorem d_mo_onePart_220 : decode (q_cc m_mo_onePart) 220 = .ok (.bipush 10, 2) := by decide +kernel
theorem d_mo_onePart_222 : decode (q_cc m_mo_onePart) 222 = .ok (.goto 36, 3) := by decide +kernel
theorem d_mo_onePart_225 : decode (q_cc m_mo_onePart) 225 = .ok (.aload_n 0, 1) := by decide +kernel
theorem d_mo_onePart_226 : decode (q_cc m_mo_onePart) 226 = .ok (.aload_n 0, 1) := by decide +kernel
theorem d_mo_onePart_227 : decode (q_cc m_mo_onePart) 227 = .ok (.getfield 81, 3) := by decide +kernel
theorem d_mo_onePart_230 : decode (q_cc m_mo_onePart) 230 = .ok (.invokevirtual 212, 3) := by decide +kernel
theorem d_mo_onePart_233 : decode (q_cc m_mo_onePart) 233 = .ok (.ifCond .eq 8, 3) := by decide +kernel
theorem d_mo_onePart_236 : decode (q_cc m_mo_onePart) 236 = .ok (.bipush 18, 2) := by decide +kernel
theorem d_mo_onePart_238 : decode (q_cc m_mo_onePart) 238 = .ok (.goto 20, 3) := by decide +kernel
theorem d_mo_onePart_241 : decode (q_cc m_mo_onePart) 241 = .ok (.aload_n 0, 1) := by decide +kernel
theorem d_mo_onePart_242 : decode (q_cc m_mo_onePart) 242 = .ok (.aload_n 0, 1) := by decide +kernel
theorem d_mo_onePart_243 : decode (q_cc m_mo_onePart) 243 = .ok (.getfield 84, 3) := by decide +kernel
theorem d_mo_onePart_246 : decode (q_cc m_mo_onePart) 246 = .ok (.invokevirtual 212, 3) := by decide +kernel
theorem d_mo_onePart_249 : decode (q_cc m_mo_onePart) 249 = .ok (.ifCond .eq 8, 3) := by decide +kernel
theorem d_mo_onePart_252 : decode (q_cc m_mo_onePart) 252 = .ok (.bipush 19, 2) := by decide +kernel
theorem d_mo_onePart_254 : decode (q_cc m_mo_onePart) 254 = .ok (.goto 4, 3) := by decide +kernel
theorem d_mo_onePart_257 : decode (q_cc m_mo_onePart) 257 = .ok (.iconst (-1), 1) := by decide +kernel
theorem d_mo_onePart_258 : decode (q_cc m_mo_onePart) 258 = .ok (.istore_n 2, 1) := by decide +kernel
theorem d_mo_onePart_259 : decode (q_cc m_mo_onePart) 259 = .ok (.aload_n 0, 1) := by decide +kernel
theorem d_mo_onePart_260 : decode (q_cc m_mo_onePart) 260 = .ok (.iload_n 2, 1) := by decide +kernel
theorem d_mo_onePart_261 : decode (q_cc m_mo_onePart) 261 = .ok (.iconst (-1), 1) := by decide +kernel
theorem d_mo_onePart_262 : decode (q_cc m_mo_onePart) 262 = .ok (.if_icmp .eq 7, 3) := by decide +kernel
theorem d_mo_onePart_265 : decode (q_cc m_mo_onePart) 265 = .ok (.iload_n 2, 1) := by decide +kernel
theorem d_mo_onePart_266 : decode (q_cc m_mo_onePart) 266 = .ok (.goto 15, 3) := by decide +kernel
theorem d_mo_onePart_269 : decode (q_cc m_mo_onePart) 269 = .ok (.sipush 1000, 3) := by decide +kernel
theorem d_mo_onePart_272 : decode (q_cc m_mo_onePart) 272 = .ok (.aload_n 0, 1) := by decide +kernel
theorem d_mo_onePart_273 : decode (q_cc m_mo_onePart) 273 = .ok (.iconst 0, 1) := by decide +kernel
theorem d_mo_onePart_274 : decode (q_cc m_mo_onePart) 274 = .ok (.sipush 9999, 3) := by decide +kernel
theorem d_mo_onePart_277 : decode (q_cc m_mo_onePart) 277 = .ok (.invokevirtual 256, 3) := by decide +kernel
theorem d_mo_onePart_280 : decode (q_cc m_mo_onePart) 280 = .ok (.iadd, 1) := by decide +kernel
theorem d_mo_onePart_281 : decode (q_cc m_mo_onePart) 281 = .ok (.invokevirtual 347, 3) := by decide +kernel
theorem d_mo_onePart_284 : decode (q_cc m_mo_onePart) 284 = .ok (.return_, 1) := by decide +kernel
theorem d_mo_goesOn_0 : decode (q_cc m_mo_goesOn) 0 = .ok (.aload_n 0, 1) := by decide +kernel
theorem d_mo_goesOn_1 : decode (q_cc m_mo_goesOn) 1 = .ok (.getfield 185, 3) := by decide +kernel
theorem d_mo_goesOn_4 : decode (q_cc m_mo_goesOn) 4 = .ok (.ifCond .ne 114, 3) := by decide +kernel
theorem d_mo_goesOn_7 : decode (q_cc m_mo_goesOn) 7 = .ok (.aload_n 0, 1) := by decide +kernel
theorem d_mo_goesOn_8 : decode (q_cc m_mo_goesOn) 8 = .ok (.invokevirtual 197, 3) := by decide +kernel
theorem d_mo_goesOn_11 : decode (q_cc m_mo_goesOn) 11 = .ok (.bipush 41, 2) := by decide +kernel
theorem d_mo_goesOn_13 : decode (q_cc m_mo_goesOn) 13 = .ok (.if_icmp .ne 105, 3) := by decide +kernel
theorem d_mo_goesOn_16 : decode (q_cc m_mo_goesOn) 16 = .ok (.aload_n 0, 1) := by decide +kernel
theorem d_mo_goesOn_17 : decode (q_cc m_mo_goesOn) 17 = .ok (.invokevirtual 359, 3) := by decide +kernel
theorem d_mo_goesOn_20 : decode (q_cc m_mo_goesOn) 20 = .ok (.bipush 20, 2) := by decide +kernel
theorem d_mo_goesOn_22 : decode (q_cc m_mo_goesOn) 22 = .ok (.if_icmp .eq 21, 3) := by decide +kernel
theorem d_mo_goesOn_25 : decode (q_cc m_mo_goesOn) 25 = .ok (.aload_n 0, 1) := by decide +kernel
theorem d_mo_goesOn_26 : decode (q_cc m_mo_goesOn) 26 = .ok (.invokevirtual 359, 3) := by decide +kernel
theorem d_mo_goesOn_29 : decode (q_cc m_mo_goesOn) 29 = .ok (.bipush 23, 2) := by decide +kernel
theorem d_mo_goesOn_31 : decode (q_cc m_mo_goesOn) 31 = .ok (.if_icmp .eq 12, 3) := by decide +kernel
theorem d_mo_goesOn_34 : decode (q_cc m_mo_goesOn) 34 = .ok (.aload_n 0, 1) := by decide +kernel
theorem d_mo_goesOn_35 : decode (q_cc m_mo_goesOn) 35 = .ok (.invokevirtual 359, 3) := by decide +kernel
theorem d_mo_goesOn_38 : decode (q_cc m_mo_goesOn) 38 = .ok (.bipush 24, 2) := by decide +kernel
theorem d_mo_goesOn_40 : decode (q_cc m_mo_goesOn) 40 = .ok (.if_icmp .ne 78, 3) := by decide +kernel
theorem d_mo_goesOn_43 : decode (q_cc m_mo_goesOn) 43 = .ok (.aload_n 0, 1) := by decide +kernel
theorem d_mo_goesOn_44 : decode (q_cc m_mo_goesOn) 44 = .ok (.dup, 1) := by decide +kernel
theorem d_mo_goesOn_45 : decode (q_cc m_mo_goesOn) 45 = .ok (.getfield 191, 3) := by decide +kernel
theorem d_mo_goesOn_48 : decode (q_cc m_mo_goesOn) 48 = .ok (.iconst 1, 1) := by decide +kernel
theorem d_mo_goesOn_49 : decode (q_cc m_mo_goesOn) 49 = .ok (.iadd, 1) := by decide +kernel
theorem d_mo_goesOn_50 : decode (q_cc m_mo_goesOn) 50 = .ok (.putfield 191, 3) := by decide +kernel
theorem d_mo_goesOn_53 : decode (q_cc m_mo_goesOn) 53 = .ok (.aload_n 0, 1) := by decide +kernel
theorem d_mo_goesOn_54 : decode (q_cc m_mo_goesOn) 54 = .ok (.invokevirtual 362, 3) := by decide +kernel
theorem d_mo_goesOn_57 : decode (q_cc m_mo_goesOn) 57 = .ok (.aload_n 0, 1) := by decide +kernel
theorem d_mo_goesOn_58 : decode (q_cc m_mo_goesOn) 58 = .ok (.dup, 1) := by decide +kernel
theorem d_mo_goesOn_59 : decode (q_cc m_mo_goesOn) 59 = .ok (.getfield 277, 3) := by decide +kernel
theorem d_mo_goesOn_62 : decode (q_cc m_mo_goesOn) 62 = .ok (.iconst 1, 1) := by decide +kernel
theorem d_mo_goesOn_63 : decode (q_cc m_mo_goesOn) 63 = .ok (.isub, 1) := by decide +kernel
theorem d_mo_goesOn_64 : decode (q_cc m_mo_goesOn) 64 = .ok (.putfield 277, 3) := by decide +kernel
theorem d_mo_goesOn_67 : decode (q_cc m_mo_goesOn) 67 = .ok (.aload_n 0, 1) := by decide +kernel
theorem d_mo_goesOn_68 : decode (q_cc m_mo_goesOn) 68 = .ok (.dup, 1) := by decide +kernel
theorem d_mo_goesOn_69 : decode (q_cc m_mo_goesOn) 69 = .ok (.getfield 280, 3) := by decide +kernel
theorem d_mo_goesOn_72 : decode (q_cc m_mo_goesOn) 72 = .ok (.iconst 1, 1) := by decide +kernel
theorem d_mo_goesOn_73 : decode (q_cc m_mo_goesOn) 73 = .ok (.isub, 1) := by decide +kernel
theorem d_mo_goesOn_74 : decode (q_cc m_mo_goesOn) 74 = .ok (.putfield 280, 3) := by decide +kernel
theorem d_mo_goesOn_77 : decode (q_cc m_mo_goesOn) 77 = .ok (.aload_n 0, 1) := by decide +kernel
theorem d_mo_goesOn_78 : decode (q_cc m_mo_goesOn) 78 = .ok (.getfield 124, 3) := by decide +kernel
theorem d_mo_goesOn_81 : decode (q_cc m_mo_goesOn) 81 = .ok (.aload_n 0, 1) := by decide +kernel
theorem d_mo_goesOn_82 : decode (q_cc m_mo_goesOn) 82 = .ok (.getfield 277, 3) := by decide +kernel
theorem d_mo_goesOn_85 : decode (q_cc m_mo_goesOn) 85 = .ok (.iaload, 1) := by decide +kernel
theorem d_mo_goesOn_86 : decode (q_cc m_mo_goesOn) 86 = .ok (.bipush 20, 2) := by decide +kernel
theorem d_mo_goesOn_88 : decode (q_cc m_mo_goesOn) 88 = .ok (.if_icmp .eq (-88), 3) := by decide +kernel
theorem d_mo_goesOn_91 : decode (q_cc m_mo_goesOn) 91 = .ok (.aload_n 0, 1) := by decide +kernel
theorem d_mo_goesOn_92 : decode (q_cc m_mo_goesOn) 92 = .ok (.aload_n 0, 1) := by decide +kernel
theorem d_mo_goesOn_93 : decode (q_cc m_mo_goesOn) 93 = .ok (.getfield 124, 3) := by decide +kernel
theorem d_mo_goesOn_96 : decode (q_cc m_mo_goesOn) 96 = .ok (.aload_n 0, 1) := by decide +kernel
theorem d_mo_goesOn_97 : decode (q_cc m_mo_goesOn) 97 = .ok (.getfield 277, 3) := by decide +kernel
theorem d_mo_goesOn_100 : decode (q_cc m_mo_goesOn) 100 = .ok (.iaload, 1) := by decide +kernel
theorem d_mo_goesOn_101 : decode (q_cc m_mo_goesOn) 101 = .ok (.bipush 23, 2) := by decide +kernel
theorem d_mo_goesOn_103 : decode (q_cc m_mo_goesOn) 103 = .ok (.if_icmp .ne 7, 3) := by decide +kernel
theorem d_mo_goesOn_106 : decode (q_cc m_mo_goesOn) 106 = .ok (.iconst 5, 1) := by decide +kernel
theorem d_mo_goesOn_107 : decode (q_cc m_mo_goesOn) 107 = .ok (.goto 5, 3) := by decide +kernel
theorem d_mo_goesOn_110 : decode (q_cc m_mo_goesOn) 110 = .ok (.bipush 6, 2) := by decide +kernel
theorem d_mo_goesOn_112 : decode (q_cc m_mo_goesOn) 112 = .ok (.invokevirtual 347, 3) := by decide +kernel
theorem d_mo_goesOn_115 : decode (q_cc m_mo_goesOn) 115 = .ok (.goto (-115), 3) := by decide +kernel
theorem d_mo_goesOn_118 : decode (q_cc m_mo_goesOn) 118 = .ok (.aload_n 0, 1) := by decide +kernel
theorem d_mo_goesOn_119 : decode (q_cc m_mo_goesOn) 119 = .ok (.bipush 42, 2) := by decide +kernel
theorem d_mo_goesOn_121 : decode (q_cc m_mo_goesOn) 121 = .ok (.invokevirtual 219, 3) := by decide +kernel
theorem d_mo_goesOn_124 : decode (q_cc m_mo_goesOn) 124 = .ok (.ifCond .ne 12, 3) := by decide +kernel
theorem d_mo_goesOn_127 : decode (q_cc m_mo_goesOn) 127 = .ok (.aload_n 0, 1) := by decide +kernel
theorem d_mo_goesOn_128 : decode (q_cc m_mo_goesOn) 128 = .ok (.bipush 47, 2) := by decide +kernel
theorem d_mo_goesOn_130 : decode (q_cc m_mo_goesOn) 130 = .ok (.invokevirtual 219, 3) := by decide +kernel
theorem d_mo_goesOn_133 : decode (q_cc m_mo_goesOn) 133 = .ok (.ifCond .eq 70, 3) := by decide +kernel
theorem d_mo_goesOn_136 : decode (q_cc m_mo_goesOn) 136 = .ok (.aload_n 0, 1) := by decide +kernel
theorem d_mo_goesOn_137 : decode (q_cc m_mo_goesOn) 137 = .ok (.getfield 7, 3) := by decide +kernel
theorem d_mo_goesOn_140 : decode (q_cc m_mo_goesOn) 140 = .ok (.aload_n 0, 1) := by decide +kernel
theorem d_mo_goesOn_141 : decode (q_cc m_mo_goesOn) 141 = .ok (.getfield 191, 3) := by decide +kernel
theorem d_mo_goesOn_144 : decode (q_cc m_mo_goesOn) 144 = .ok (.iconst 1, 1) := by decide +kernel
theorem d_mo_goesOn_145 : decode (q_cc m_mo_goesOn) 145 = .ok (.isub, 1) := by decide +kernel
theorem d_mo_goesOn_146 : decode (q_cc m_mo_goesOn) 146 = .ok (.iaload, 1) := by decide +kernel
theorem d_mo_goesOn_147 : decode (q_cc m_mo_goesOn) 147 = .ok (.bipush 42, 2) := by decide +kernel
theorem d_mo_goesOn_149 : decode (q_cc m_mo_goesOn) 149 = .ok (.if_icmp .ne 7, 3) := by decide +kernel
theorem d_mo_goesOn_152 : decode (q_cc m_mo_goesOn) 152 = .ok (.iconst 3, 1) := by decide +kernel
theorem d_mo_goesOn_153 : decode (q_cc m_mo_goesOn) 153 = .ok (.goto 4, 3) := by decide +kernel
theorem d_mo_goesOn_156 : decode (q_cc m_mo_goesOn) 156 = .ok (.iconst 4, 1) := by decide +kernel
theorem d_mo_goesOn_157 : decode (q_cc m_mo_goesOn) 157 = .ok (.istore_n 1, 1) := by decide +kernel
theorem d_mo_goesOn_158 : decode (q_cc m_mo_goesOn) 158 = .ok (.aload_n 0, 1) := by decide +kernel
theorem d_mo_goesOn_159 : decode (q_cc m_mo_goesOn) 159 = .ok (.iconst 3, 1) := by decide +kernel
theorem d_mo_goesOn_160 : decode (q_cc m_mo_goesOn) 160 = .ok (.invokevirtual 365, 3) := by decide +kernel
theorem d_mo_goesOn_163 : decode (q_cc m_mo_goesOn) 163 = .ok (.ifCond .ne 11, 3) := by decide +kernel
theorem d_mo_goesOn_166 : decode (q_cc m_mo_goesOn) 166 = .ok (.aload_n 0, 1) := by decide +kernel
theorem d_mo_goesOn_167 : decode (q_cc m_mo_goesOn) 167 = .ok (.iconst 4, 1) := by decide +kernel
theorem d_mo_goesOn_168 : decode (q_cc m_mo_goesOn) 168 = .ok (.invokevirtual 365, 3) := by decide +kernel
theorem d_mo_goesOn_171 : decode (q_cc m_mo_goesOn) 171 = .ok (.ifCond .eq 10, 3) := by decide +kernel
theorem d_mo_goesOn_174 : decode (q_cc m_mo_goesOn) 174 = .ok (.aload_n 0, 1) := by decide +kernel
theorem d_mo_goesOn_175 : decode (q_cc m_mo_goesOn) 175 = .ok (.invokevirtual 353, 3) := by decide +kernel
theorem d_mo_goesOn_178 : decode (q_cc m_mo_goesOn) 178 = .ok (.goto (-20), 3) := by decide +kernel
theorem d_mo_goesOn_181 : decode (q_cc m_mo_goesOn) 181 = .ok (.aload_n 0, 1) := by decide +kernel
theorem d_mo_goesOn_182 : decode (q_cc m_mo_goesOn) 182 = .ok (.getfield 124, 3) := by decide +kernel
theorem d_mo_goesOn_185 : decode (q_cc m_mo_goesOn) 185 = .ok (.aload_n 0, 1) := by decide +kernel
theorem d_mo_goesOn_186 : decode (q_cc m_mo_goesOn) 186 = .ok (.getfield 277, 3) := by decide +kernel
theorem d_mo_goesOn_189 : decode (q_cc m_mo_goesOn) 189 = .ok (.iload_n 1, 1) := by decide +kernel
theorem d_mo_goesOn_190 : decode (q_cc m_mo_goesOn) 190 = .ok (.iastore, 1) := by decide +kernel
theorem d_mo_goesOn_191 : decode (q_cc m_mo_goesOn) 191 = .ok (.aload_n 0, 1) := by decide +kernel
theorem d_mo_goesOn_192 : decode (q_cc m_mo_goesOn) 192 = .ok (.dup, 1) := by decide +kernel
theorem d_mo_goesOn_193 : decode (q_cc m_mo_goesOn) 193 = .ok (.getfield 277, 3) := by decide +kernel
theorem d_mo_goesOn_196 : decode (q_cc m_mo_goesOn) 196 = .ok (.iconst 1, 1) := by decide +kernel
theorem d_mo_goesOn_197 : decode (q_cc m_mo_goesOn) 197 = .ok (.iadd, 1) := by decide +kernel
theorem d_mo_goesOn_198 : decode (q_cc m_mo_goesOn) 198 = .ok (.putfield 277, 3) := by decide +kernel
theorem d_mo_goesOn_201 : decode (q_cc m_mo_goesOn) 201 = .ok (.iconst 1, 1) := by decide +kernel
theorem d_mo_goesOn_202 : decode (q_cc m_mo_goesOn) 202 = .ok (.ireturn, 1) := by decide +kernel
theorem d_mo_goesOn_203 : decode (q_cc m_mo_goesOn) 203 = .ok (.aload_n 0, 1) := by decide +kernel
theorem d_mo_goesOn_204 : decode (q_cc m_mo_goesOn) 204 = .ok (.bipush 43, 2) := by decide +kernel
theorem d_mo_goesOn_206 : decode (q_cc m_mo_goesOn) 206 = .ok (.invokevirtual 219, 3) := by decide +kernel
theorem d_mo_goesOn_209 : decode (q_cc m_mo_goesOn) 209 = .ok (.ifCond .ne 12, 3) := by decide +kernel
theorem d_mo_goesOn_212 : decode (q_cc m_mo_goesOn) 212 = .ok (.aload_n 0, 1) := by decide +kernel
theorem d_mo_goesOn_213 : decode (q_cc m_mo_goesOn) 213 = .ok (.bipush 45, 2) := by decide +kernel
theorem d_mo_goesOn_215 : decode (q_cc m_mo_goesOn) 215 = .ok (.invokevirtual 219, 3) := by decide +kernel
theorem d_mo_goesOn_218 : decode (q_cc m_mo_goesOn) 218 = .ok (.ifCond .eq 86, 3) := by decide +kernel
theorem d_mo_goesOn_221 : decode (q_cc m_mo_goesOn) 221 = .ok (.aload_n 0, 1) := by decide +kernel
theorem d_mo_goesOn_222 : decode (q_cc m_mo_goesOn) 222 = .ok (.getfield 7, 3) := by decide +kernel
theorem d_mo_goesOn_225 : decode (q_cc m_mo_goesOn) 225 = .ok (.aload_n 0, 1) := by decide +kernel
theorem d_mo_goesOn_226 : decode (q_cc m_mo_goesOn) 226 = .ok (.getfield 191, 3) := by decide +kernel
theorem d_mo_goesOn_229 : decode (q_cc m_mo_goesOn) 229 = .ok (.iconst 1, 1) := by decide +kernel
theorem d_mo_goesOn_230 : decode (q_cc m_mo_goesOn) 230 = .ok (.isub, 1) := by decide +kernel
theorem d_mo_goesOn_231 : decode (q_cc m_mo_goesOn) 231 = .ok (.iaload, 1) := by decide +kernel
theorem d_mo_goesOn_232 : decode (q_cc m_mo_goesOn) 232 = .ok (.bipush 43, 2) := by decide +kernel
theorem d_mo_goesOn_234 : decode (q_cc m_mo_goesOn) 234 = .ok (.if_icmp .ne 7, 3) := by decide +kernel
theorem d_mo_goesOn_237 : decode (q_cc m_mo_goesOn) 237 = .ok (.iconst 1, 1) := by decide +kernel
theorem d_mo_goesOn_238 : decode (q_cc m_mo_goesOn) 238 = .ok (.goto 4, 3) := by decide +kernel
theorem d_mo_goesOn_241 : decode (q_cc m_mo_goesOn) 241 = .ok (.iconst 2, 1) := by decide +kernel
theorem d_mo_goesOn_242 : decode (q_cc m_mo_goesOn) 242 = .ok (.istore_n 1, 1) := by decide +kernel
theorem d_mo_goesOn_243 : decode (q_cc m_mo_goesOn) 243 = .ok (.aload_n 0, 1) := by decide +kernel
theorem d_mo_goesOn_244 : decode (q_cc m_mo_goesOn) 244 = .ok (.iconst 3, 1) := by decide +kernel
theorem d_mo_goesOn_245 : decode (q_cc m_mo_goesOn) 245 = .ok (.invokevirtual 365, 3) := by decide +kernel
theorem d_mo_goesOn_248 : decode (q_cc m_mo_goesOn) 248 = .ok (.ifCond .ne 27, 3) := by decide +kernel
theorem d_mo_goesOn_251 : decode (q_cc m_mo_goesOn) 251 = .ok (.aload_n 0, 1) := by decide +kernel
theorem d_mo_goesOn_252 : decode (q_cc m_mo_goesOn) 252 = .ok (.iconst 4, 1) := by decide +kernel
theorem d_mo_goesOn_253 : decode (q_cc m_mo_goesOn) 253 = .ok (.invokevirtual 365, 3) := by decide +kernel
theorem d_mo_goesOn_256 : decode (q_cc m_mo_goesOn) 256 = .ok (.ifCond .ne 19, 3) := by decide +kernel
theorem d_mo_goesOn_259 : decode (q_cc m_mo_goesOn) 259 = .ok (.aload_n 0, 1) := by decide +kernel
theorem d_mo_goesOn_260 : decode (q_cc m_mo_goesOn) 260 = .ok (.iconst 1, 1) := by decide +kernel
theorem d_mo_goesOn_261 : decode (q_cc m_mo_goesOn) 261 = .ok (.invokevirtual 365, 3) := by decide +kernel
theorem d_mo_goesOn_264 : decode (q_cc m_mo_goesOn) 264 = .ok (.ifCond .ne 11, 3) := by decide +kernel
theorem d_mo_goesOn_267 : decode (q_cc m_mo_goesOn) 267 = .ok (.aload_n 0, 1) := by decide +kernel
theorem d_mo_goesOn_268 : decode (q_cc m_mo_goesOn) 268 = .ok (.iconst 2, 1) := by decide +kernel
theorem d_mo_goesOn_269 : decode (q_cc m_mo_goesOn) 269 = .ok (.invokevirtual 365, 3) := by decide +kernel
theorem d_mo_goesOn_272 : decode (q_cc m_mo_goesOn) 272 = .ok (.ifCond .eq 10, 3) := by decide +kernel
theorem d_mo_goesOn_275 : decode (q_cc m_mo_goesOn) 275 = .ok (.aload_n 0, 1) := by decide +kernel
theorem d_mo_goesOn_276 : decode (q_cc m_mo_goesOn) 276 = .ok (.invokevirtual 353, 3) := by decide +kernel
theorem d_mo_goesOn_279 : decode (q_cc m_mo_goesOn) 279 = .ok (.goto (-36), 3) := by decide +kernel
theorem d_mo_goesOn_282 : decode (q_cc m_mo_goesOn) 282 = .ok (.aload_n 0, 1) := by decide +kernel
theorem d_mo_goesOn_283 : decode (q_cc m_mo_goesOn) 283 = .ok (.getfield 124, 3) := by decide +kernel
theorem d_mo_goesOn_286 : decode (q_cc m_mo_goesOn) 286 = .ok (.aload_n 0, 1) := by decide +kernel
theorem d_mo_goesOn_287 : decode (q_cc m_mo_goesOn) 287 = .ok (.getfield 277, 3) := by decide +kernel
theorem d_mo_goesOn_290 : decode (q_cc m_mo_goesOn) 290 = .ok (.iload_n 1, 1) := by decide +kernel
theorem d_mo_goesOn_291 : decode (q_cc m_mo_goesOn) 291 = .ok (.iastore, 1) := by decide +kernel
theorem d_mo_goesOn_292 : decode (q_cc m_mo_goesOn) 292 = .ok (.aload_n 0, 1) := by decide +kernel
theorem d_mo_goesOn_293 : decode (q_cc m_mo_goesOn) 293 = .ok (.dup, 1) := by decide +kernel
theorem d_mo_goesOn_294 : decode (q_cc m_mo_goesOn) 294 = .ok (.getfield 277, 3) := by decide +kernel
theorem d_mo_goesOn_297 : decode (q_cc m_mo_goesOn) 297 = .ok (.iconst 1, 1) := by decide +kernel
theorem d_mo_goesOn_298 : decode (q_cc m_mo_goesOn) 298 = .ok (.iadd, 1) := by decide +kernel
theorem d_mo_goesOn_299 : decode (q_cc m_mo_goesOn) 299 = .ok (.putfield 277, 3) := by decide +kernel
theorem d_mo_goesOn_302 : decode (q_cc m_mo_goesOn) 302 = .ok (.iconst 1, 1) := by decide +kernel
theorem d_mo_goesOn_303 : decode (q_cc m_mo_goesOn) 303 = .ok (.ireturn, 1) := by decide +kernel
theorem d_mo_goesOn_304 : decode (q_cc m_mo_goesOn) 304 = .ok (.aload_n 0, 1) := by decide +kernel
theorem d_mo_goesOn_305 : decode (q_cc m_mo_goesOn) 305 = .ok (.invokevirtual 359, 3) := by decide +kernel
theorem d_mo_goesOn_308 : decode (q_cc m_mo_goesOn) 308 = .ok (.bipush 21, 2) := by decide +kernel
theorem d_mo_goesOn_310 : decode (q_cc m_mo_goesOn) 310 = .ok (.if_icmp .eq 12, 3) := by decide +kernel
theorem d_mo_goesOn_313 : decode (q_cc m_mo_goesOn) 313 = .ok (.aload_n 0, 1) := by decide +kernel
theorem d_mo_goesOn_314 : decode (q_cc m_mo_goesOn) 314 = .ok (.invokevirtual 359, 3) := by decide +kernel
theorem d_mo_goesOn_317 : decode (q_cc m_mo_goesOn) 317 = .ok (.bipush 22, 2) := by decide +kernel
theorem d_mo_goesOn_319 : decode (q_cc m_mo_goesOn) 319 = .ok (.if_icmp .ne 39, 3) := by decide +kernel
theorem d_mo_goesOn_322 : decode (q_cc m_mo_goesOn) 322 = .ok (.aload_n 0, 1) := by decide +kernel
theorem d_mo_goesOn_323 : decode (q_cc m_mo_goesOn) 323 = .ok (.bipush 44, 2) := by decide +kernel
theorem d_mo_goesOn_325 : decode (q_cc m_mo_goesOn) 325 = .ok (.invokevirtual 260, 3) := by decide +kernel
theorem d_mo_goesOn_328 : decode (q_cc m_mo_goesOn) 328 = .ok (.aload_n 0, 1) := by decide +kernel
theorem d_mo_goesOn_329 : decode (q_cc m_mo_goesOn) 329 = .ok (.getfield 185, 3) := by decide +kernel
theorem d_mo_goesOn_332 : decode (q_cc m_mo_goesOn) 332 = .ok (.ifCond .eq 5, 3) := by decide +kernel
theorem d_mo_goesOn_335 : decode (q_cc m_mo_goesOn) 335 = .ok (.iconst 0, 1) := by decide +kernel
theorem d_mo_goesOn_336 : decode (q_cc m_mo_goesOn) 336 = .ok (.ireturn, 1) := by decide +kernel
theorem d_mo_goesOn_337 : decode (q_cc m_mo_goesOn) 337 = .ok (.aload_n 0, 1) := by decide +kernel
theorem d_mo_goesOn_338 : decode (q_cc m_mo_goesOn) 338 = .ok (.invokevirtual 362, 3) := by decide +kernel
theorem d_mo_goesOn_341 : decode (q_cc m_mo_goesOn) 341 = .ok (.aload_n 0, 1) := by decide +kernel
theorem d_mo_goesOn_342 : decode (q_cc m_mo_goesOn) 342 = .ok (.getfield 124, 3) := by decide +kernel
theorem d_mo_goesOn_345 : decode (q_cc m_mo_goesOn) 345 = .ok (.aload_n 0, 1) := by decide +kernel
theorem d_mo_goesOn_346 : decode (q_cc m_mo_goesOn) 346 = .ok (.getfield 277, 3) := by decide +kernel
theorem d_mo_goesOn_349 : decode (q_cc m_mo_goesOn) 349 = .ok (.iconst 1, 1) := by decide +kernel
theorem d_mo_goesOn_350 : decode (q_cc m_mo_goesOn) 350 = .ok (.isub, 1) := by decide +kernel
theorem d_mo_goesOn_351 : decode (q_cc m_mo_goesOn) 351 = .ok (.dup2, 1) := by decide +kernel
theorem d_mo_goesOn_352 : decode (q_cc m_mo_goesOn) 352 = .ok (.iaload, 1) := by decide +kernel
theorem d_mo_goesOn_353 : decode (q_cc m_mo_goesOn) 353 = .ok (.iconst 2, 1) := by decide +kernel
theorem d_mo_goesOn_354 : decode (q_cc m_mo_goesOn) 354 = .ok (.iadd, 1) := by decide +kernel
theorem d_mo_goesOn_355 : decode (q_cc m_mo_goesOn) 355 = .ok (.iastore, 1) := by decide +kernel
theorem d_mo_goesOn_356 : decode (q_cc m_mo_goesOn) 356 = .ok (.iconst 1, 1) := by decide +kernel
theorem d_mo_goesOn_357 : decode (q_cc m_mo_goesOn) 357 = .ok (.ireturn, 1) := by decide +kernel
theorem d_mo_goesOn_358 : decode (q_cc m_mo_goesOn) 358 = .ok (.aload_n 0, 1) := by decide +kernel
theorem d_mo_goesOn_359 : decode (q_cc m_mo_goesOn) 359 = .ok (.invokevirtual 359, 3) := by decide +kernel
theorem d_mo_goesOn_362 : decode (q_cc m_mo_goesOn) 362 = .ok (.iconst (-1), 1) := by decide +kernel
theorem d_mo_goesOn_363 : decode (q_cc m_mo_goesOn) 363 = .ok (.if_icmp .eq 19, 3) := by decide +kernel
theorem d_mo_goesOn_366 : decode (q_cc m_mo_goesOn) 366 = .ok (.aload_n 0, 1) := by decide +kernel
theorem d_mo_goesOn_367 : decode (q_cc m_mo_goesOn) 367 = .ok (.getfield 185, 3) := by decide +kernel
theorem d_mo_goesOn_370 : decode (q_cc m_mo_goesOn) 370 = .ok (.ifCond .ne 12, 3) := by decide +kernel
theorem d_mo_goesOn_373 : decode (q_cc m_mo_goesOn) 373 = .ok (.aload_n 0, 1) := by decide +kernel
theorem d_mo_goesOn_374 : decode (q_cc m_mo_goesOn) 374 = .ok (.iconst 1, 1) := by decide +kernel
theorem d_mo_goesOn_375 : decode (q_cc m_mo_goesOn) 375 = .ok (.aload_n 0, 1) := by decide +kernel
theorem d_mo_goesOn_376 : decode (q_cc m_mo_goesOn) 376 = .ok (.getfield 191, 3) := by decide +kernel
theorem d_mo_goesOn_379 : decode (q_cc m_mo_goesOn) 379 = .ok (.invokevirtual 215, 3) := by decide +kernel
theorem d_mo_goesOn_382 : decode (q_cc m_mo_goesOn) 382 = .ok (.iconst 0, 1) := by decide +kernel
theorem d_mo_goesOn_383 : decode (q_cc m_mo_goesOn) 383 = .ok (.ireturn, 1) := by decide +kernel
theorem d_mo_sumsTold_0 : decode (q_cc m_mo_sumsTold) 0 = .ok (.aload_n 0, 1) := by decide +kernel
theorem d_mo_sumsTold_1 : decode (q_cc m_mo_sumsTold) 1 = .ok (.getfield 283, 3) := by decide +kernel
theorem d_mo_sumsTold_4 : decode (q_cc m_mo_sumsTold) 4 = .ok (.istore_n 1, 1) := by decide +kernel
theorem d_mo_sumsTold_5 : decode (q_cc m_mo_sumsTold) 5 = .ok (.aload_n 0, 1) := by decide +kernel
theorem d_mo_sumsTold_6 : decode (q_cc m_mo_sumsTold) 6 = .ok (.aload_n 0, 1) := by decide +kernel
theorem d_mo_sumsTold_7 : decode (q_cc m_mo_sumsTold) 7 = .ok (.getfield 277, 3) := by decide +kernel
theorem d_mo_sumsTold_10 : decode (q_cc m_mo_sumsTold) 10 = .ok (.putfield 283, 3) := by decide +kernel
theorem d_mo_sumsTold_13 : decode (q_cc m_mo_sumsTold) 13 = .ok (.iconst 1, 1) := by decide +kernel
theorem d_mo_sumsTold_14 : decode (q_cc m_mo_sumsTold) 14 = .ok (.istore_n 2, 1) := by decide +kernel
theorem d_mo_sumsTold_15 : decode (q_cc m_mo_sumsTold) 15 = .ok (.iload_n 2, 1) := by decide +kernel
theorem d_mo_sumsTold_16 : decode (q_cc m_mo_sumsTold) 16 = .ok (.ifCond .eq 37, 3) := by decide +kernel
theorem d_mo_sumsTold_19 : decode (q_cc m_mo_sumsTold) 19 = .ok (.aload_n 0, 1) := by decide +kernel
theorem d_mo_sumsTold_20 : decode (q_cc m_mo_sumsTold) 20 = .ok (.getfield 185, 3) := by decide +kernel
theorem d_mo_sumsTold_23 : decode (q_cc m_mo_sumsTold) 23 = .ok (.ifCond .ne 30, 3) := by decide +kernel
theorem d_mo_sumsTold_26 : decode (q_cc m_mo_sumsTold) 26 = .ok (.aload_n 0, 1) := by decide +kernel
theorem d_mo_sumsTold_27 : decode (q_cc m_mo_sumsTold) 27 = .ok (.invokevirtual 368, 3) := by decide +kernel
theorem d_mo_sumsTold_30 : decode (q_cc m_mo_sumsTold) 30 = .ok (.aload_n 0, 1) := by decide +kernel
theorem d_mo_sumsTold_31 : decode (q_cc m_mo_sumsTold) 31 = .ok (.getfield 185, 3) := by decide +kernel
theorem d_mo_sumsTold_34 : decode (q_cc m_mo_sumsTold) 34 = .ok (.ifCond .ne 14, 3) := by decide +kernel
theorem d_mo_sumsTold_37 : decode (q_cc m_mo_sumsTold) 37 = .ok (.aload_n 0, 1) := by decide +kernel
theorem d_mo_sumsTold_38 : decode (q_cc m_mo_sumsTold) 38 = .ok (.invokevirtual 371, 3) := by decide +kernel
theorem d_mo_sumsTold_41 : decode (q_cc m_mo_sumsTold) 41 = .ok (.ifCond .eq 7, 3) := by decide +kernel
theorem d_mo_sumsTold_44 : decode (q_cc m_mo_sumsTold) 44 = .ok (.iconst 1, 1) := by decide +kernel
theorem d_mo_sumsTold_45 : decode (q_cc m_mo_sumsTold) 45 = .ok (.goto 4, 3) := by decide +kernel
theorem d_mo_sumsTold_48 : decode (q_cc m_mo_sumsTold) 48 = .ok (.iconst 0, 1) := by decide +kernel
theorem d_mo_sumsTold_49 : decode (q_cc m_mo_sumsTold) 49 = .ok (.istore_n 2, 1) := by decide +kernel
theorem d_mo_sumsTold_50 : decode (q_cc m_mo_sumsTold) 50 = .ok (.goto (-35), 3) := by decide +kernel
theorem d_mo_sumsTold_53 : decode (q_cc m_mo_sumsTold) 53 = .ok (.aload_n 0, 1) := by decide +kernel
theorem d_mo_sumsTold_54 : decode (q_cc m_mo_sumsTold) 54 = .ok (.getfield 185, 3) := by decide +kernel
theorem d_mo_sumsTold_57 : decode (q_cc m_mo_sumsTold) 57 = .ok (.ifCond .ne 21, 3) := by decide +kernel
theorem d_mo_sumsTold_60 : decode (q_cc m_mo_sumsTold) 60 = .ok (.aload_n 0, 1) := by decide +kernel
theorem d_mo_sumsTold_61 : decode (q_cc m_mo_sumsTold) 61 = .ok (.getfield 277, 3) := by decide +kernel
theorem d_mo_sumsTold_64 : decode (q_cc m_mo_sumsTold) 64 = .ok (.aload_n 0, 1) := by decide +kernel
theorem d_mo_sumsTold_65 : decode (q_cc m_mo_sumsTold) 65 = .ok (.getfield 283, 3) := by decide +kernel
theorem d_mo_sumsTold_68 : decode (q_cc m_mo_sumsTold) 68 = .ok (.if_icmp .le 10, 3) := by decide +kernel
theorem d_mo_sumsTold_71 : decode (q_cc m_mo_sumsTold) 71 = .ok (.aload_n 0, 1) := by decide +kernel
theorem d_mo_sumsTold_72 : decode (q_cc m_mo_sumsTold) 72 = .ok (.invokevirtual 353, 3) := by decide +kernel
theorem d_mo_sumsTold_75 : decode (q_cc m_mo_sumsTold) 75 = .ok (.goto (-22), 3) := by decide +kernel
theorem d_mo_sumsTold_78 : decode (q_cc m_mo_sumsTold) 78 = .ok (.aload_n 0, 1) := by decide +kernel
theorem d_mo_sumsTold_79 : decode (q_cc m_mo_sumsTold) 79 = .ok (.iload_n 1, 1) := by decide +kernel
theorem d_mo_sumsTold_80 : decode (q_cc m_mo_sumsTold) 80 = .ok (.putfield 283, 3) := by decide +kernel
theorem d_mo_sumsTold_83 : decode (q_cc m_mo_sumsTold) 83 = .ok (.return_, 1) := by decide +kernel
theorem d_mo_fact_0 : decode (q_cc m_mo_fact) 0 = .ok (.aload_n 0, 1) := by decide +kernel
theorem d_mo_fact_1 : decode (q_cc m_mo_fact) 1 = .ok (.aload_n 0, 1) := by decide +kernel
theorem d_mo_fact_2 : decode (q_cc m_mo_fact) 2 = .ok (.getfield 75, 3) := by decide +kernel
theorem d_mo_fact_5 : decode (q_cc m_mo_fact) 5 = .ok (.invokevirtual 212, 3) := by decide +kernel
theorem d_mo_fact_8 : decode (q_cc m_mo_fact) 8 = .ok (.ifCond .eq 10, 3) := by decide +kernel
theorem d_mo_fact_11 : decode (q_cc m_mo_fact) 11 = .ok (.aload_n 0, 1) := by decide +kernel
theorem d_mo_fact_12 : decode (q_cc m_mo_fact) 12 = .ok (.bipush 17, 2) := by decide +kernel
theorem d_mo_fact_14 : decode (q_cc m_mo_fact) 14 = .ok (.invokevirtual 347, 3) := by decide +kernel
theorem d_mo_fact_17 : decode (q_cc m_mo_fact) 17 = .ok (.return_, 1) := by decide +kernel
theorem d_mo_fact_18 : decode (q_cc m_mo_fact) 18 = .ok (.aload_n 0, 1) := by decide +kernel
theorem d_mo_fact_19 : decode (q_cc m_mo_fact) 19 = .ok (.invokevirtual 286, 3) := by decide +kernel
theorem d_mo_fact_22 : decode (q_cc m_mo_fact) 22 = .ok (.aload_n 0, 1) := by decide +kernel
theorem d_mo_fact_23 : decode (q_cc m_mo_fact) 23 = .ok (.getfield 185, 3) := by decide +kernel
theorem d_mo_fact_26 : decode (q_cc m_mo_fact) 26 = .ok (.ifCond .eq 4, 3) := by decide +kernel
theorem d_mo_fact_29 : decode (q_cc m_mo_fact) 29 = .ok (.return_, 1) := by decide +kernel
theorem d_mo_fact_30 : decode (q_cc m_mo_fact) 30 = .ok (.aload_n 0, 1) := by decide +kernel
theorem d_mo_fact_31 : decode (q_cc m_mo_fact) 31 = .ok (.invokevirtual 197, 3) := by decide +kernel
theorem d_mo_fact_34 : decode (q_cc m_mo_fact) 34 = .ok (.istore_n 1, 1) := by decide +kernel
theorem d_mo_fact_35 : decode (q_cc m_mo_fact) 35 = .ok (.iload_n 1, 1) := by decide +kernel
theorem d_mo_fact_36 : decode (q_cc m_mo_fact) 36 = .ok (.bipush 60, 2) := by decide +kernel
theorem d_mo_fact_38 : decode (q_cc m_mo_fact) 38 = .ok (.if_icmp .eq 25, 3) := by decide +kernel
theorem d_mo_fact_41 : decode (q_cc m_mo_fact) 41 = .ok (.iload_n 1, 1) := by decide +kernel
theorem d_mo_fact_42 : decode (q_cc m_mo_fact) 42 = .ok (.bipush 62, 2) := by decide +kernel
theorem d_mo_fact_44 : decode (q_cc m_mo_fact) 44 = .ok (.if_icmp .eq 19, 3) := by decide +kernel
theorem d_mo_fact_47 : decode (q_cc m_mo_fact) 47 = .ok (.iload_n 1, 1) := by decide +kernel
theorem d_mo_fact_48 : decode (q_cc m_mo_fact) 48 = .ok (.bipush 61, 2) := by decide +kernel
theorem d_mo_fact_50 : decode (q_cc m_mo_fact) 50 = .ok (.if_icmp .eq 13, 3) := by decide +kernel
theorem d_mo_fact_53 : decode (q_cc m_mo_fact) 53 = .ok (.aload_n 0, 1) := by decide +kernel
theorem d_mo_fact_54 : decode (q_cc m_mo_fact) 54 = .ok (.iconst 1, 1) := by decide +kernel
theorem d_mo_fact_55 : decode (q_cc m_mo_fact) 55 = .ok (.aload_n 0, 1) := by decide +kernel
theorem d_mo_fact_56 : decode (q_cc m_mo_fact) 56 = .ok (.getfield 191, 3) := by decide +kernel
theorem d_mo_fact_59 : decode (q_cc m_mo_fact) 59 = .ok (.invokevirtual 215, 3) := by decide +kernel
theorem d_mo_fact_62 : decode (q_cc m_mo_fact) 62 = .ok (.return_, 1) := by decide +kernel
theorem d_mo_fact_63 : decode (q_cc m_mo_fact) 63 = .ok (.aload_n 0, 1) := by decide +kernel
theorem d_mo_fact_64 : decode (q_cc m_mo_fact) 64 = .ok (.dup, 1) := by decide +kernel
theorem d_mo_fact_65 : decode (q_cc m_mo_fact) 65 = .ok (.getfield 191, 3) := by decide +kernel
theorem d_mo_fact_68 : decode (q_cc m_mo_fact) 68 = .ok (.iconst 1, 1) := by decide +kernel
theorem d_mo_fact_69 : decode (q_cc m_mo_fact) 69 = .ok (.iadd, 1) := by decide +kernel
theorem d_mo_fact_70 : decode (q_cc m_mo_fact) 70 = .ok (.putfield 191, 3) := by decide +kernel
theorem d_mo_fact_73 : decode (q_cc m_mo_fact) 73 = .ok (.aload_n 0, 1) := by decide +kernel
theorem d_mo_fact_74 : decode (q_cc m_mo_fact) 74 = .ok (.invokevirtual 286, 3) := by decide +kernel
theorem d_mo_fact_77 : decode (q_cc m_mo_fact) 77 = .ok (.aload_n 0, 1) := by decide +kernel
theorem d_mo_fact_78 : decode (q_cc m_mo_fact) 78 = .ok (.iload_n 1, 1) := by decide +kernel
theorem d_mo_fact_79 : decode (q_cc m_mo_fact) 79 = .ok (.bipush 60, 2) := by decide +kernel
theorem d_mo_fact_81 : decode (q_cc m_mo_fact) 81 = .ok (.if_icmp .ne 8, 3) := by decide +kernel
theorem d_mo_fact_84 : decode (q_cc m_mo_fact) 84 = .ok (.bipush 11, 2) := by decide +kernel
theorem d_mo_fact_86 : decode (q_cc m_mo_fact) 86 = .ok (.goto 16, 3) := by decide +kernel
theorem d_mo_fact_89 : decode (q_cc m_mo_fact) 89 = .ok (.iload_n 1, 1) := by decide +kernel
theorem d_mo_fact_90 : decode (q_cc m_mo_fact) 90 = .ok (.bipush 62, 2) := by decide +kernel
theorem d_mo_fact_92 : decode (q_cc m_mo_fact) 92 = .ok (.if_icmp .ne 8, 3) := by decide +kernel
theorem d_mo_fact_95 : decode (q_cc m_mo_fact) 95 = .ok (.bipush 12, 2) := by decide +kernel
theorem d_mo_fact_97 : decode (q_cc m_mo_fact) 97 = .ok (.goto 5, 3) := by decide +kernel
theorem d_mo_fact_100 : decode (q_cc m_mo_fact) 100 = .ok (.bipush 13, 2) := by decide +kernel
theorem d_mo_fact_102 : decode (q_cc m_mo_fact) 102 = .ok (.invokevirtual 347, 3) := by decide +kernel
theorem d_mo_fact_105 : decode (q_cc m_mo_fact) 105 = .ok (.return_, 1) := by decide +kernel
theorem d_mo_hasSquare_0 : decode (q_cc m_mo_hasSquare) 0 = .ok (.iconst 0, 1) := by decide +kernel
theorem d_mo_hasSquare_1 : decode (q_cc m_mo_hasSquare) 1 = .ok (.istore_n 1, 1) := by decide +kernel
theorem d_mo_hasSquare_2 : decode (q_cc m_mo_hasSquare) 2 = .ok (.iload_n 1, 1) := by decide +kernel
theorem d_mo_hasSquare_3 : decode (q_cc m_mo_hasSquare) 3 = .ok (.aload_n 0, 1) := by decide +kernel
theorem d_mo_hasSquare_4 : decode (q_cc m_mo_hasSquare) 4 = .ok (.getfield 277, 3) := by decide +kernel
theorem d_mo_hasSquare_7 : decode (q_cc m_mo_hasSquare) 7 = .ok (.if_icmp .ge 22, 3) := by decide +kernel
theorem d_mo_hasSquare_10 : decode (q_cc m_mo_hasSquare) 10 = .ok (.aload_n 0, 1) := by decide +kernel
theorem d_mo_hasSquare_11 : decode (q_cc m_mo_hasSquare) 11 = .ok (.getfield 124, 3) := by decide +kernel
theorem d_mo_hasSquare_14 : decode (q_cc m_mo_hasSquare) 14 = .ok (.iload_n 1, 1) := by decide +kernel
theorem d_mo_hasSquare_15 : decode (q_cc m_mo_hasSquare) 15 = .ok (.iaload, 1) := by decide +kernel
theorem d_mo_hasSquare_16 : decode (q_cc m_mo_hasSquare) 16 = .ok (.bipush 25, 2) := by decide +kernel
theorem d_mo_hasSquare_18 : decode (q_cc m_mo_hasSquare) 18 = .ok (.if_icmp .ne 5, 3) := by decide +kernel
theorem d_mo_hasSquare_21 : decode (q_cc m_mo_hasSquare) 21 = .ok (.iconst 1, 1) := by decide +kernel
theorem d_mo_hasSquare_22 : decode (q_cc m_mo_hasSquare) 22 = .ok (.ireturn, 1) := by decide +kernel
theorem d_mo_hasSquare_23 : decode (q_cc m_mo_hasSquare) 23 = .ok (.iinc 1 1, 3) := by decide +kernel
theorem d_mo_hasSquare_26 : decode (q_cc m_mo_hasSquare) 26 = .ok (.goto (-24), 3) := by decide +kernel
theorem d_mo_hasSquare_29 : decode (q_cc m_mo_hasSquare) 29 = .ok (.iconst 0, 1) := by decide +kernel
theorem d_mo_hasSquare_30 : decode (q_cc m_mo_hasSquare) 30 = .ok (.ireturn, 1) := by decide +kernel
theorem d_mo_dropsNots_0 : decode (q_cc m_mo_dropsNots) 0 = .ok (.aload_n 0, 1) := by decide +kernel
theorem d_mo_dropsNots_1 : decode (q_cc m_mo_dropsNots) 1 = .ok (.getfield 185, 3) := by decide +kernel
theorem d_mo_dropsNots_4 : decode (q_cc m_mo_dropsNots) 4 = .ok (.ifCond .ne 29, 3) := by decide +kernel
theorem d_mo_dropsNots_7 : decode (q_cc m_mo_dropsNots) 7 = .ok (.aload_n 0, 1) := by decide +kernel
theorem d_mo_dropsNots_8 : decode (q_cc m_mo_dropsNots) 8 = .ok (.bipush 16, 2) := by decide +kernel
theorem d_mo_dropsNots_10 : decode (q_cc m_mo_dropsNots) 10 = .ok (.invokevirtual 365, 3) := by decide +kernel
theorem d_mo_dropsNots_13 : decode (q_cc m_mo_dropsNots) 13 = .ok (.ifCond .eq 20, 3) := by decide +kernel
theorem d_mo_dropsNots_16 : decode (q_cc m_mo_dropsNots) 16 = .ok (.aload_n 0, 1) := by decide +kernel
theorem d_mo_dropsNots_17 : decode (q_cc m_mo_dropsNots) 17 = .ok (.dup, 1) := by decide +kernel
theorem d_mo_dropsNots_18 : decode (q_cc m_mo_dropsNots) 18 = .ok (.getfield 280, 3) := by decide +kernel
theorem d_mo_dropsNots_21 : decode (q_cc m_mo_dropsNots) 21 = .ok (.iconst 1, 1) := by decide +kernel
theorem d_mo_dropsNots_22 : decode (q_cc m_mo_dropsNots) 22 = .ok (.isub, 1) := by decide +kernel
theorem d_mo_dropsNots_23 : decode (q_cc m_mo_dropsNots) 23 = .ok (.putfield 280, 3) := by decide +kernel
theorem d_mo_dropsNots_26 : decode (q_cc m_mo_dropsNots) 26 = .ok (.aload_n 0, 1) := by decide +kernel
theorem d_mo_dropsNots_27 : decode (q_cc m_mo_dropsNots) 27 = .ok (.invokevirtual 353, 3) := by decide +kernel
theorem d_mo_dropsNots_30 : decode (q_cc m_mo_dropsNots) 30 = .ok (.goto (-30), 3) := by decide +kernel
theorem d_mo_dropsNots_33 : decode (q_cc m_mo_dropsNots) 33 = .ok (.return_, 1) := by decide +kernel
theorem d_mo_test_0 : decode (q_cc m_mo_test) 0 = .ok (.iconst 1, 1) := by decide +kernel
theorem d_mo_test_1 : decode (q_cc m_mo_test) 1 = .ok (.istore_n 1, 1) := by decide +kernel
theorem d_mo_test_2 : decode (q_cc m_mo_test) 2 = .ok (.iload_n 1, 1) := by decide +kernel
theorem d_mo_test_3 : decode (q_cc m_mo_test) 3 = .ok (.ifCond .eq 107, 3) := by decide +kernel
theorem d_mo_test_6 : decode (q_cc m_mo_test) 6 = .ok (.aload_n 0, 1) := by decide +kernel
theorem d_mo_test_7 : decode (q_cc m_mo_test) 7 = .ok (.getfield 185, 3) := by decide +kernel
theorem d_mo_test_10 : decode (q_cc m_mo_test) 10 = .ok (.ifCond .ne 100, 3) := by decide +kernel
theorem d_mo_test_13 : decode (q_cc m_mo_test) 13 = .ok (.aload_n 0, 1) := by decide +kernel
theorem d_mo_test_14 : decode (q_cc m_mo_test) 14 = .ok (.invokevirtual 197, 3) := by decide +kernel
theorem d_mo_test_17 : decode (q_cc m_mo_test) 17 = .ok (.istore_n 2, 1) := by decide +kernel
theorem d_mo_test_18 : decode (q_cc m_mo_test) 18 = .ok (.iload_n 2, 1) := by decide +kernel
theorem d_mo_test_19 : decode (q_cc m_mo_test) 19 = .ok (.bipush 91, 2) := by decide +kernel
theorem d_mo_test_21 : decode (q_cc m_mo_test) 21 = .ok (.if_icmp .ne 26, 3) := by decide +kernel
theorem d_mo_test_24 : decode (q_cc m_mo_test) 24 = .ok (.aload_n 0, 1) := by decide +kernel
theorem d_mo_test_25 : decode (q_cc m_mo_test) 25 = .ok (.bipush 25, 2) := by decide +kernel
theorem d_mo_test_27 : decode (q_cc m_mo_test) 27 = .ok (.aload_n 0, 1) := by decide +kernel
theorem d_mo_test_28 : decode (q_cc m_mo_test) 28 = .ok (.getfield 191, 3) := by decide +kernel
theorem d_mo_test_31 : decode (q_cc m_mo_test) 31 = .ok (.invokevirtual 356, 3) := by decide +kernel
theorem d_mo_test_34 : decode (q_cc m_mo_test) 34 = .ok (.aload_n 0, 1) := by decide +kernel
theorem d_mo_test_35 : decode (q_cc m_mo_test) 35 = .ok (.dup, 1) := by decide +kernel
theorem d_mo_test_36 : decode (q_cc m_mo_test) 36 = .ok (.getfield 191, 3) := by decide +kernel
theorem d_mo_test_39 : decode (q_cc m_mo_test) 39 = .ok (.iconst 1, 1) := by decide +kernel
theorem d_mo_test_40 : decode (q_cc m_mo_test) 40 = .ok (.iadd, 1) := by decide +kernel
theorem d_mo_test_41 : decode (q_cc m_mo_test) 41 = .ok (.putfield 191, 3) := by decide +kernel
theorem d_mo_test_44 : decode (q_cc m_mo_test) 44 = .ok (.goto (-42), 3) := by decide +kernel
theorem d_mo_test_47 : decode (q_cc m_mo_test) 47 = .ok (.aload_n 0, 1) := by decide +kernel
theorem d_mo_test_48 : decode (q_cc m_mo_test) 48 = .ok (.aload_n 0, 1) := by decide +kernel
theorem d_mo_test_49 : decode (q_cc m_mo_test) 49 = .ok (.getfield 72, 3) := by decide +kernel
theorem d_mo_test_52 : decode (q_cc m_mo_test) 52 = .ok (.invokevirtual 208, 3) := by decide +kernel
theorem d_mo_test_55 : decode (q_cc m_mo_test) 55 = .ok (.ifCond .eq 24, 3) := by decide +kernel
theorem d_mo_test_58 : decode (q_cc m_mo_test) 58 = .ok (.aload_n 0, 1) := by decide +kernel
theorem d_mo_test_59 : decode (q_cc m_mo_test) 59 = .ok (.bipush 16, 2) := by decide +kernel
theorem d_mo_test_61 : decode (q_cc m_mo_test) 61 = .ok (.aload_n 0, 1) := by decide +kernel
theorem d_mo_test_62 : decode (q_cc m_mo_test) 62 = .ok (.getfield 191, 3) := by decide +kernel
theorem d_mo_test_65 : decode (q_cc m_mo_test) 65 = .ok (.invokevirtual 356, 3) := by decide +kernel
theorem d_mo_test_68 : decode (q_cc m_mo_test) 68 = .ok (.aload_n 0, 1) := by decide +kernel
theorem d_mo_test_69 : decode (q_cc m_mo_test) 69 = .ok (.aload_n 0, 1) := by decide +kernel
theorem d_mo_test_70 : decode (q_cc m_mo_test) 70 = .ok (.getfield 72, 3) := by decide +kernel
theorem d_mo_test_73 : decode (q_cc m_mo_test) 73 = .ok (.invokevirtual 248, 3) := by decide +kernel
theorem d_mo_test_76 : decode (q_cc m_mo_test) 76 = .ok (.goto (-74), 3) := by decide +kernel
theorem d_mo_test_79 : decode (q_cc m_mo_test) 79 = .ok (.aload_n 0, 1) := by decide +kernel
theorem d_mo_test_80 : decode (q_cc m_mo_test) 80 = .ok (.invokevirtual 374, 3) := by decide +kernel
theorem d_mo_test_83 : decode (q_cc m_mo_test) 83 = .ok (.aload_n 0, 1) := by decide +kernel
theorem d_mo_test_84 : decode (q_cc m_mo_test) 84 = .ok (.invokevirtual 377, 3) := by decide +kernel
theorem d_mo_test_87 : decode (q_cc m_mo_test) 87 = .ok (.aload_n 0, 1) := by decide +kernel
theorem d_mo_test_88 : decode (q_cc m_mo_test) 88 = .ok (.getfield 185, 3) := by decide +kernel
theorem d_mo_test_91 : decode (q_cc m_mo_test) 91 = .ok (.ifCond .ne 14, 3) := by decide +kernel
theorem d_mo_test_94 : decode (q_cc m_mo_test) 94 = .ok (.aload_n 0, 1) := by decide +kernel
theorem d_mo_test_95 : decode (q_cc m_mo_test) 95 = .ok (.invokevirtual 380, 3) := by decide +kernel
theorem d_mo_test_98 : decode (q_cc m_mo_test) 98 = .ok (.ifCond .eq 7, 3) := by decide +kernel
theorem d_mo_test_101 : decode (q_cc m_mo_test) 101 = .ok (.iconst 1, 1) := by decide +kernel
theorem d_mo_test_102 : decode (q_cc m_mo_test) 102 = .ok (.goto 4, 3) := by decide +kernel
theorem d_mo_test_105 : decode (q_cc m_mo_test) 105 = .ok (.iconst 0, 1) := by decide +kernel
theorem d_mo_test_106 : decode (q_cc m_mo_test) 106 = .ok (.istore_n 1, 1) := by decide +kernel
theorem d_mo_test_107 : decode (q_cc m_mo_test) 107 = .ok (.goto (-105), 3) := by decide +kernel
theorem d_mo_test_110 : decode (q_cc m_mo_test) 110 = .ok (.aload_n 0, 1) := by decide +kernel
theorem d_mo_test_111 : decode (q_cc m_mo_test) 111 = .ok (.getfield 185, 3) := by decide +kernel
theorem d_mo_test_114 : decode (q_cc m_mo_test) 114 = .ok (.ifCond .ne 17, 3) := by decide +kernel
theorem d_mo_test_117 : decode (q_cc m_mo_test) 117 = .ok (.aload_n 0, 1) := by decide +kernel
theorem d_mo_test_118 : decode (q_cc m_mo_test) 118 = .ok (.getfield 277, 3) := by decide +kernel
theorem d_mo_test_121 : decode (q_cc m_mo_test) 121 = .ok (.ifCond .le 10, 3) := by decide +kernel
theorem d_mo_test_124 : decode (q_cc m_mo_test) 124 = .ok (.aload_n 0, 1) := by decide +kernel
theorem d_mo_test_125 : decode (q_cc m_mo_test) 125 = .ok (.invokevirtual 353, 3) := by decide +kernel
theorem d_mo_test_128 : decode (q_cc m_mo_test) 128 = .ok (.goto (-18), 3) := by decide +kernel
theorem d_mo_test_131 : decode (q_cc m_mo_test) 131 = .ok (.return_, 1) := by decide +kernel
theorem d_mo_goesOnTest_0 : decode (q_cc m_mo_goesOnTest) 0 = .ok (.aload_n 0, 1) := by decide +kernel
theorem d_mo_goesOnTest_1 : decode (q_cc m_mo_goesOnTest) 1 = .ok (.getfield 185, 3) := by decide +kernel
theorem d_mo_goesOnTest_4 : decode (q_cc m_mo_goesOnTest) 4 = .ok (.ifCond .ne 72, 3) := by decide +kernel
theorem d_mo_goesOnTest_7 : decode (q_cc m_mo_goesOnTest) 7 = .ok (.aload_n 0, 1) := by decide +kernel
theorem d_mo_goesOnTest_8 : decode (q_cc m_mo_goesOnTest) 8 = .ok (.invokevirtual 197, 3) := by decide +kernel
theorem d_mo_goesOnTest_11 : decode (q_cc m_mo_goesOnTest) 11 = .ok (.bipush 93, 2) := by decide +kernel
theorem d_mo_goesOnTest_13 : decode (q_cc m_mo_goesOnTest) 13 = .ok (.if_icmp .ne 63, 3) := by decide +kernel
theorem d_mo_goesOnTest_16 : decode (q_cc m_mo_goesOnTest) 16 = .ok (.aload_n 0, 1) := by decide +kernel
theorem d_mo_goesOnTest_17 : decode (q_cc m_mo_goesOnTest) 17 = .ok (.invokevirtual 383, 3) := by decide +kernel
theorem d_mo_goesOnTest_20 : decode (q_cc m_mo_goesOnTest) 20 = .ok (.ifCond .eq 56, 3) := by decide +kernel
theorem d_mo_goesOnTest_23 : decode (q_cc m_mo_goesOnTest) 23 = .ok (.aload_n 0, 1) := by decide +kernel
theorem d_mo_goesOnTest_24 : decode (q_cc m_mo_goesOnTest) 24 = .ok (.dup, 1) := by decide +kernel
theorem d_mo_goesOnTest_25 : decode (q_cc m_mo_goesOnTest) 25 = .ok (.getfield 191, 3) := by decide +kernel
theorem d_mo_goesOnTest_28 : decode (q_cc m_mo_goesOnTest) 28 = .ok (.iconst 1, 1) := by decide +kernel
theorem d_mo_goesOnTest_29 : decode (q_cc m_mo_goesOnTest) 29 = .ok (.iadd, 1) := by decide +kernel
theorem d_mo_goesOnTest_30 : decode (q_cc m_mo_goesOnTest) 30 = .ok (.putfield 191, 3) := by decide +kernel
theorem d_mo_goesOnTest_33 : decode (q_cc m_mo_goesOnTest) 33 = .ok (.aload_n 0, 1) := by decide +kernel
theorem d_mo_goesOnTest_34 : decode (q_cc m_mo_goesOnTest) 34 = .ok (.bipush 25, 2) := by decide +kernel
theorem d_mo_goesOnTest_36 : decode (q_cc m_mo_goesOnTest) 36 = .ok (.invokevirtual 365, 3) := by decide +kernel
theorem d_mo_goesOnTest_39 : decode (q_cc m_mo_goesOnTest) 39 = .ok (.ifCond .ne 10, 3) := by decide +kernel
theorem d_mo_goesOnTest_42 : decode (q_cc m_mo_goesOnTest) 42 = .ok (.aload_n 0, 1) := by decide +kernel
theorem d_mo_goesOnTest_43 : decode (q_cc m_mo_goesOnTest) 43 = .ok (.invokevirtual 353, 3) := by decide +kernel
theorem d_mo_goesOnTest_46 : decode (q_cc m_mo_goesOnTest) 46 = .ok (.goto (-13), 3) := by decide +kernel
theorem d_mo_goesOnTest_49 : decode (q_cc m_mo_goesOnTest) 49 = .ok (.aload_n 0, 1) := by decide +kernel
theorem d_mo_goesOnTest_50 : decode (q_cc m_mo_goesOnTest) 50 = .ok (.dup, 1) := by decide +kernel
theorem d_mo_goesOnTest_51 : decode (q_cc m_mo_goesOnTest) 51 = .ok (.getfield 277, 3) := by decide +kernel
theorem d_mo_goesOnTest_54 : decode (q_cc m_mo_goesOnTest) 54 = .ok (.iconst 1, 1) := by decide +kernel
theorem d_mo_goesOnTest_55 : decode (q_cc m_mo_goesOnTest) 55 = .ok (.isub, 1) := by decide +kernel
theorem d_mo_goesOnTest_56 : decode (q_cc m_mo_goesOnTest) 56 = .ok (.putfield 277, 3) := by decide +kernel
theorem d_mo_goesOnTest_59 : decode (q_cc m_mo_goesOnTest) 59 = .ok (.aload_n 0, 1) := by decide +kernel
theorem d_mo_goesOnTest_60 : decode (q_cc m_mo_goesOnTest) 60 = .ok (.dup, 1) := by decide +kernel
theorem d_mo_goesOnTest_61 : decode (q_cc m_mo_goesOnTest) 61 = .ok (.getfield 280, 3) := by decide +kernel
theorem d_mo_goesOnTest_64 : decode (q_cc m_mo_goesOnTest) 64 = .ok (.iconst 1, 1) := by decide +kernel
theorem d_mo_goesOnTest_65 : decode (q_cc m_mo_goesOnTest) 65 = .ok (.isub, 1) := by decide +kernel
theorem d_mo_goesOnTest_66 : decode (q_cc m_mo_goesOnTest) 66 = .ok (.putfield 280, 3) := by decide +kernel
theorem d_mo_goesOnTest_69 : decode (q_cc m_mo_goesOnTest) 69 = .ok (.aload_n 0, 1) := by decide +kernel
theorem d_mo_goesOnTest_70 : decode (q_cc m_mo_goesOnTest) 70 = .ok (.invokevirtual 377, 3) := by decide +kernel
theorem d_mo_goesOnTest_73 : decode (q_cc m_mo_goesOnTest) 73 = .ok (.goto (-73), 3) := by decide +kernel
theorem d_mo_goesOnTest_76 : decode (q_cc m_mo_goesOnTest) 76 = .ok (.aload_n 0, 1) := by decide +kernel
theorem d_mo_goesOnTest_77 : decode (q_cc m_mo_goesOnTest) 77 = .ok (.aload_n 0, 1) := by decide +kernel
theorem d_mo_goesOnTest_78 : decode (q_cc m_mo_goesOnTest) 78 = .ok (.getfield 69, 3) := by decide +kernel
theorem d_mo_goesOnTest_81 : decode (q_cc m_mo_goesOnTest) 81 = .ok (.invokevirtual 212, 3) := by decide +kernel
theorem d_mo_goesOnTest_84 : decode (q_cc m_mo_goesOnTest) 84 = .ok (.ifCond .eq 42, 3) := by decide +kernel
theorem d_mo_goesOnTest_87 : decode (q_cc m_mo_goesOnTest) 87 = .ok (.aload_n 0, 1) := by decide +kernel
theorem d_mo_goesOnTest_88 : decode (q_cc m_mo_goesOnTest) 88 = .ok (.bipush 14, 2) := by decide +kernel
theorem d_mo_goesOnTest_90 : decode (q_cc m_mo_goesOnTest) 90 = .ok (.invokevirtual 365, 3) := by decide +kernel
theorem d_mo_goesOnTest_93 : decode (q_cc m_mo_goesOnTest) 93 = .ok (.ifCond .eq 10, 3) := by decide +kernel
theorem d_mo_goesOnTest_96 : decode (q_cc m_mo_goesOnTest) 96 = .ok (.aload_n 0, 1) := by decide +kernel
theorem d_mo_goesOnTest_97 : decode (q_cc m_mo_goesOnTest) 97 = .ok (.invokevirtual 353, 3) := by decide +kernel
theorem d_mo_goesOnTest_100 : decode (q_cc m_mo_goesOnTest) 100 = .ok (.goto (-13), 3) := by decide +kernel
theorem d_mo_goesOnTest_103 : decode (q_cc m_mo_goesOnTest) 103 = .ok (.aload_n 0, 1) := by decide +kernel
theorem d_mo_goesOnTest_104 : decode (q_cc m_mo_goesOnTest) 104 = .ok (.getfield 124, 3) := by decide +kernel
theorem d_mo_goesOnTest_107 : decode (q_cc m_mo_goesOnTest) 107 = .ok (.aload_n 0, 1) := by decide +kernel
theorem d_mo_goesOnTest_108 : decode (q_cc m_mo_goesOnTest) 108 = .ok (.getfield 277, 3) := by decide +kernel
theorem d_mo_goesOnTest_111 : decode (q_cc m_mo_goesOnTest) 111 = .ok (.bipush 14, 2) := by decide +kernel
theorem d_mo_goesOnTest_113 : decode (q_cc m_mo_goesOnTest) 113 = .ok (.iastore, 1) := by decide +kernel
theorem d_mo_goesOnTest_114 : decode (q_cc m_mo_goesOnTest) 114 = .ok (.aload_n 0, 1) := by decide +kernel
theorem d_mo_goesOnTest_115 : decode (q_cc m_mo_goesOnTest) 115 = .ok (.dup, 1) := by decide +kernel
theorem d_mo_goesOnTest_116 : decode (q_cc m_mo_goesOnTest) 116 = .ok (.getfield 277, 3) := by decide +kernel
theorem d_mo_goesOnTest_119 : decode (q_cc m_mo_goesOnTest) 119 = .ok (.iconst 1, 1) := by decide +kernel
theorem d_mo_goesOnTest_120 : decode (q_cc m_mo_goesOnTest) 120 = .ok (.iadd, 1) := by decide +kernel
theorem d_mo_goesOnTest_121 : decode (q_cc m_mo_goesOnTest) 121 = .ok (.putfield 277, 3) := by decide +kernel
theorem d_mo_goesOnTest_124 : decode (q_cc m_mo_goesOnTest) 124 = .ok (.iconst 1, 1) := by decide +kernel
theorem d_mo_goesOnTest_125 : decode (q_cc m_mo_goesOnTest) 125 = .ok (.ireturn, 1) := by decide +kernel
theorem d_mo_goesOnTest_126 : decode (q_cc m_mo_goesOnTest) 126 = .ok (.aload_n 0, 1) := by decide +kernel
theorem d_mo_goesOnTest_127 : decode (q_cc m_mo_goesOnTest) 127 = .ok (.aload_n 0, 1) := by decide +kernel
theorem d_mo_goesOnTest_128 : decode (q_cc m_mo_goesOnTest) 128 = .ok (.getfield 66, 3) := by decide +kernel
theorem d_mo_goesOnTest_131 : decode (q_cc m_mo_goesOnTest) 131 = .ok (.invokevirtual 212, 3) := by decide +kernel
theorem d_mo_goesOnTest_134 : decode (q_cc m_mo_goesOnTest) 134 = .ok (.ifCond .eq 51, 3) := by decide +kernel
theorem d_mo_goesOnTest_137 : decode (q_cc m_mo_goesOnTest) 137 = .ok (.aload_n 0, 1) := by decide +kernel
theorem d_mo_goesOnTest_138 : decode (q_cc m_mo_goesOnTest) 138 = .ok (.bipush 14, 2) := by decide +kernel
theorem d_mo_goesOnTest_140 : decode (q_cc m_mo_goesOnTest) 140 = .ok (.invokevirtual 365, 3) := by decide +kernel
theorem d_mo_goesOnTest_143 : decode (q_cc m_mo_goesOnTest) 143 = .ok (.ifCond .ne 12, 3) := by decide +kernel
theorem d_mo_goesOnTest_146 : decode (q_cc m_mo_goesOnTest) 146 = .ok (.aload_n 0, 1) := by decide +kernel
theorem d_mo_goesOnTest_147 : decode (q_cc m_mo_goesOnTest) 147 = .ok (.bipush 15, 2) := by decide +kernel
theorem d_mo_goesOnTest_149 : decode (q_cc m_mo_goesOnTest) 149 = .ok (.invokevirtual 365, 3) := by decide +kernel
theorem d_mo_goesOnTest_152 : decode (q_cc m_mo_goesOnTest) 152 = .ok (.ifCond .eq 10, 3) := by decide +kernel
theorem d_mo_goesOnTest_155 : decode (q_cc m_mo_goesOnTest) 155 = .ok (.aload_n 0, 1) := by decide +kernel
theorem d_mo_goesOnTest_156 : decode (q_cc m_mo_goesOnTest) 156 = .ok (.invokevirtual 353, 3) := by decide +kernel
theorem d_mo_goesOnTest_159 : decode (q_cc m_mo_goesOnTest) 159 = .ok (.goto (-22), 3) := by decide +kernel
theorem d_mo_goesOnTest_162 : decode (q_cc m_mo_goesOnTest) 162 = .ok (.aload_n 0, 1) := by decide +kernel
theorem d_mo_goesOnTest_163 : decode (q_cc m_mo_goesOnTest) 163 = .ok (.getfield 124, 3) := by decide +kernel
theorem d_mo_goesOnTest_166 : decode (q_cc m_mo_goesOnTest) 166 = .ok (.aload_n 0, 1) := by decide +kernel
theorem d_mo_goesOnTest_167 : decode (q_cc m_mo_goesOnTest) 167 = .ok (.getfield 277, 3) := by decide +kernel
theorem d_mo_goesOnTest_170 : decode (q_cc m_mo_goesOnTest) 170 = .ok (.bipush 15, 2) := by decide +kernel
theorem d_mo_goesOnTest_172 : decode (q_cc m_mo_goesOnTest) 172 = .ok (.iastore, 1) := by decide +kernel
theorem d_mo_goesOnTest_173 : decode (q_cc m_mo_goesOnTest) 173 = .ok (.aload_n 0, 1) := by decide +kernel
theorem d_mo_goesOnTest_174 : decode (q_cc m_mo_goesOnTest) 174 = .ok (.dup, 1) := by decide +kernel
theorem d_mo_goesOnTest_175 : decode (q_cc m_mo_goesOnTest) 175 = .ok (.getfield 277, 3) := by decide +kernel
theorem d_mo_goesOnTest_178 : decode (q_cc m_mo_goesOnTest) 178 = .ok (.iconst 1, 1) := by decide +kernel
theorem d_mo_goesOnTest_179 : decode (q_cc m_mo_goesOnTest) 179 = .ok (.iadd, 1) := by decide +kernel
theorem d_mo_goesOnTest_180 : decode (q_cc m_mo_goesOnTest) 180 = .ok (.putfield 277, 3) := by decide +kernel
theorem d_mo_goesOnTest_183 : decode (q_cc m_mo_goesOnTest) 183 = .ok (.iconst 1, 1) := by decide +kernel
theorem d_mo_goesOnTest_184 : decode (q_cc m_mo_goesOnTest) 184 = .ok (.ireturn, 1) := by decide +kernel
theorem d_mo_goesOnTest_185 : decode (q_cc m_mo_goesOnTest) 185 = .ok (.aload_n 0, 1) := by decide +kernel
theorem d_mo_goesOnTest_186 : decode (q_cc m_mo_goesOnTest) 186 = .ok (.getfield 185, 3) := by decide +kernel
theorem d_mo_goesOnTest_189 : decode (q_cc m_mo_goesOnTest) 189 = .ok (.ifCond .ne 19, 3) := by decide +kernel
theorem d_mo_goesOnTest_192 : decode (q_cc m_mo_goesOnTest) 192 = .ok (.aload_n 0, 1) := by decide +kernel
theorem d_mo_goesOnTest_193 : decode (q_cc m_mo_goesOnTest) 193 = .ok (.invokevirtual 383, 3) := by decide +kernel
theorem d_mo_goesOnTest_196 : decode (q_cc m_mo_goesOnTest) 196 = .ok (.ifCond .eq 12, 3) := by decide +kernel
theorem d_mo_goesOnTest_199 : decode (q_cc m_mo_goesOnTest) 199 = .ok (.aload_n 0, 1) := by decide +kernel
theorem d_mo_goesOnTest_200 : decode (q_cc m_mo_goesOnTest) 200 = .ok (.iconst 1, 1) := by decide +kernel
theorem d_mo_goesOnTest_201 : decode (q_cc m_mo_goesOnTest) 201 = .ok (.aload_n 0, 1) := by decide +kernel
theorem d_mo_goesOnTest_202 : decode (q_cc m_mo_goesOnTest) 202 = .ok (.getfield 191, 3) := by decide +kernel
theorem d_mo_goesOnTest_205 : decode (q_cc m_mo_goesOnTest) 205 = .ok (.invokevirtual 215, 3) := by decide +kernel
theorem d_mo_goesOnTest_208 : decode (q_cc m_mo_goesOnTest) 208 = .ok (.iconst 0, 1) := by decide +kernel
theorem d_mo_goesOnTest_209 : decode (q_cc m_mo_goesOnTest) 209 = .ok (.ireturn, 1) := by decide +kernel
theorem d_mo_fault_0 : decode (q_cc m_mo_fault) 0 = .ok (.iload_n 1, 1) := by decide +kernel
theorem d_mo_fault_1 : decode (q_cc m_mo_fault) 1 = .ok (.ifCond .ne 10, 3) := by decide +kernel
theorem d_mo_fault_4 : decode (q_cc m_mo_fault) 4 = .ok (.aload_n 0, 1) := by decide +kernel
theorem d_mo_fault_5 : decode (q_cc m_mo_fault) 5 = .ok (.getfield 319, 3) := by decide +kernel
theorem d_mo_fault_8 : decode (q_cc m_mo_fault) 8 = .ok (.goto 16, 3) := by decide +kernel
theorem d_mo_fault_11 : decode (q_cc m_mo_fault) 11 = .ok (.iload_n 1, 1) := by decide +kernel
theorem d_mo_fault_12 : decode (q_cc m_mo_fault) 12 = .ok (.iconst 1, 1) := by decide +kernel
theorem d_mo_fault_13 : decode (q_cc m_mo_fault) 13 = .ok (.if_icmp .ne 10, 3) := by decide +kernel
theorem d_mo_fault_16 : decode (q_cc m_mo_fault) 16 = .ok (.aload_n 0, 1) := by decide +kernel
theorem d_mo_fault_17 : decode (q_cc m_mo_fault) 17 = .ok (.getfield 13, 3) := by decide +kernel
theorem d_mo_fault_20 : decode (q_cc m_mo_fault) 20 = .ok (.goto 4, 3) := by decide +kernel
theorem d_mo_fault_23 : decode (q_cc m_mo_fault) 23 = .ok (.iconst (-1), 1) := by decide +kernel
theorem d_mo_fault_24 : decode (q_cc m_mo_fault) 24 = .ok (.ireturn, 1) := by decide +kernel
theorem d_mo_clip_0 : decode (q_cc m_mo_clip) 0 = .ok (.lload_n 0, 1) := by decide +kernel
theorem d_mo_clip_1 : decode (q_cc m_mo_clip) 1 = .ok (.ldc2_w 386, 3) := by decide +kernel
theorem d_mo_clip_4 : decode (q_cc m_mo_clip) 4 = .ok (.lcmp, 1) := by decide +kernel
theorem d_mo_clip_5 : decode (q_cc m_mo_clip) 5 = .ok (.ifCond .le 9, 3) := by decide +kernel
theorem d_mo_clip_8 : decode (q_cc m_mo_clip) 8 = .ok (.ldc2_w 386, 3) := by decide +kernel
theorem d_mo_clip_11 : decode (q_cc m_mo_clip) 11 = .ok (.goto 18, 3) := by decide +kernel
theorem d_mo_clip_14 : decode (q_cc m_mo_clip) 14 = .ok (.lload_n 0, 1) := by decide +kernel
theorem d_mo_clip_15 : decode (q_cc m_mo_clip) 15 = .ok (.ldc2_w 388, 3) := by decide +kernel
theorem d_mo_clip_18 : decode (q_cc m_mo_clip) 18 = .ok (.lcmp, 1) := by decide +kernel
theorem d_mo_clip_19 : decode (q_cc m_mo_clip) 19 = .ok (.ifCond .ge 9, 3) := by decide +kernel
theorem d_mo_clip_22 : decode (q_cc m_mo_clip) 22 = .ok (.ldc2_w 388, 3) := by decide +kernel
theorem d_mo_clip_25 : decode (q_cc m_mo_clip) 25 = .ok (.goto 4, 3) := by decide +kernel
theorem d_mo_clip_28 : decode (q_cc m_mo_clip) 28 = .ok (.lload_n 0, 1) := by decide +kernel
theorem d_mo_clip_29 : decode (q_cc m_mo_clip) 29 = .ok (.lreturn, 1) := by decide +kernel
theorem d_mo_floor_0 : decode (q_cc m_mo_floor) 0 = .ok (.lload_n 2, 1) := by decide +kernel
theorem d_mo_floor_1 : decode (q_cc m_mo_floor) 1 = .ok (.lconst 0, 1) := by decide +kernel
theorem d_mo_floor_2 : decode (q_cc m_mo_floor) 2 = .ok (.lcmp, 1) := by decide +kernel
theorem d_mo_floor_3 : decode (q_cc m_mo_floor) 3 = .ok (.ifCond .ne 5, 3) := by decide +kernel
theorem d_mo_floor_6 : decode (q_cc m_mo_floor) 6 = .ok (.lconst 0, 1) := by decide +kernel
theorem d_mo_floor_7 : decode (q_cc m_mo_floor) 7 = .ok (.lreturn, 1) := by decide +kernel
theorem d_mo_floor_8 : decode (q_cc m_mo_floor) 8 = .ok (.lload_n 0, 1) := by decide +kernel
theorem d_mo_floor_9 : decode (q_cc m_mo_floor) 9 = .ok (.lload_n 2, 1) := by decide +kernel
theorem d_mo_floor_10 : decode (q_cc m_mo_floor) 10 = .ok (.ldiv, 1) := by decide +kernel
theorem d_mo_floor_11 : decode (q_cc m_mo_floor) 11 = .ok (.lstore 4, 2) := by decide +kernel
theorem d_mo_floor_13 : decode (q_cc m_mo_floor) 13 = .ok (.lload_n 0, 1) := by decide +kernel
theorem d_mo_floor_14 : decode (q_cc m_mo_floor) 14 = .ok (.lload_n 2, 1) := by decide +kernel
theorem d_mo_floor_15 : decode (q_cc m_mo_floor) 15 = .ok (.lrem, 1) := by decide +kernel
theorem d_mo_floor_16 : decode (q_cc m_mo_floor) 16 = .ok (.lconst 0, 1) := by decide +kernel
theorem d_mo_floor_17 : decode (q_cc m_mo_floor) 17 = .ok (.lcmp, 1) := by decide +kernel
theorem d_mo_floor_18 : decode (q_cc m_mo_floor) 18 = .ok (.ifCond .eq 35, 3) := by decide +kernel
theorem d_mo_floor_21 : decode (q_cc m_mo_floor) 21 = .ok (.lload_n 0, 1) := by decide +kernel
theorem d_mo_floor_22 : decode (q_cc m_mo_floor) 22 = .ok (.lconst 0, 1) := by decide +kernel
theorem d_mo_floor_23 : decode (q_cc m_mo_floor) 23 = .ok (.lcmp, 1) := by decide +kernel
theorem d_mo_floor_24 : decode (q_cc m_mo_floor) 24 = .ok (.ifCond .ge 7, 3) := by decide +kernel
theorem d_mo_floor_27 : decode (q_cc m_mo_floor) 27 = .ok (.iconst 1, 1) := by decide +kernel
theorem d_mo_floor_28 : decode (q_cc m_mo_floor) 28 = .ok (.goto 4, 3) := by decide +kernel
theorem d_mo_floor_31 : decode (q_cc m_mo_floor) 31 = .ok (.iconst 0, 1) := by decide +kernel
theorem d_mo_floor_32 : decode (q_cc m_mo_floor) 32 = .ok (.lload_n 2, 1) := by decide +kernel
theorem d_mo_floor_33 : decode (q_cc m_mo_floor) 33 = .ok (.lconst 0, 1) := by decide +kernel
theorem d_mo_floor_34 : decode (q_cc m_mo_floor) 34 = .ok (.lcmp, 1) := by decide +kernel
theorem d_mo_floor_35 : decode (q_cc m_mo_floor) 35 = .ok (.ifCond .ge 7, 3) := by decide +kernel
theorem d_mo_floor_38 : decode (q_cc m_mo_floor) 38 = .ok (.iconst 1, 1) := by decide +kernel
theorem d_mo_floor_39 : decode (q_cc m_mo_floor) 39 = .ok (.goto 4, 3) := by decide +kernel
theorem d_mo_floor_42 : decode (q_cc m_mo_floor) 42 = .ok (.iconst 0, 1) := by decide +kernel
theorem d_mo_floor_43 : decode (q_cc m_mo_floor) 43 = .ok (.if_icmp .eq 10, 3) := by decide +kernel
theorem d_mo_floor_46 : decode (q_cc m_mo_floor) 46 = .ok (.lload 4, 2) := by decide +kernel
theorem d_mo_floor_48 : decode (q_cc m_mo_floor) 48 = .ok (.lconst 1, 1) := by decide +kernel
theorem d_mo_floor_49 : decode (q_cc m_mo_floor) 49 = .ok (.lsub, 1) := by decide +kernel
theorem d_mo_floor_50 : decode (q_cc m_mo_floor) 50 = .ok (.goto 5, 3) := by decide +kernel
theorem d_mo_floor_53 : decode (q_cc m_mo_floor) 53 = .ok (.lload 4, 2) := by decide +kernel
theorem d_mo_floor_55 : decode (q_cc m_mo_floor) 55 = .ok (.lreturn, 1) := by decide +kernel
theorem d_mo_puts_0 : decode (q_cc m_mo_puts) 0 = .ok (.aload_n 0, 1) := by decide +kernel
theorem d_mo_puts_1 : decode (q_cc m_mo_puts) 1 = .ok (.getfield 136, 3) := by decide +kernel
theorem d_mo_puts_4 : decode (q_cc m_mo_puts) 4 = .ok (.aload_n 0, 1) := by decide +kernel
theorem d_mo_puts_5 : decode (q_cc m_mo_puts) 5 = .ok (.getfield 390, 3) := by decide +kernel
theorem d_mo_puts_8 : decode (q_cc m_mo_puts) 8 = .ok (.lload_n 1, 1) := by decide +kernel
theorem d_mo_puts_9 : decode (q_cc m_mo_puts) 9 = .ok (.lastore, 1) := by decide +kernel
theorem d_mo_puts_10 : decode (q_cc m_mo_puts) 10 = .ok (.aload_n 0, 1) := by decide +kernel
theorem d_mo_puts_11 : decode (q_cc m_mo_puts) 11 = .ok (.dup, 1) := by decide +kernel
theorem d_mo_puts_12 : decode (q_cc m_mo_puts) 12 = .ok (.getfield 390, 3) := by decide +kernel
theorem d_mo_puts_15 : decode (q_cc m_mo_puts) 15 = .ok (.iconst 1, 1) := by decide +kernel
theorem d_mo_puts_16 : decode (q_cc m_mo_puts) 16 = .ok (.iadd, 1) := by decide +kernel
theorem d_mo_puts_17 : decode (q_cc m_mo_puts) 17 = .ok (.putfield 390, 3) := by decide +kernel
theorem d_mo_puts_20 : decode (q_cc m_mo_puts) 20 = .ok (.return_, 1) := by decide +kernel
theorem d_mo_joins_0 : decode (q_cc m_mo_joins) 0 = .ok (.aload_n 0, 1) := by decide +kernel
theorem d_mo_joins_1 : decode (q_cc m_mo_joins) 1 = .ok (.getfield 136, 3) := by decide +kernel
theorem d_mo_joins_4 : decode (q_cc m_mo_joins) 4 = .ok (.aload_n 0, 1) := by decide +kernel
theorem d_mo_joins_5 : decode (q_cc m_mo_joins) 5 = .ok (.getfield 390, 3) := by decide +kernel
theorem d_mo_joins_8 : decode (q_cc m_mo_joins) 8 = .ok (.iconst 1, 1) := by decide +kernel
theorem d_mo_joins_9 : decode (q_cc m_mo_joins) 9 = .ok (.isub, 1) := by decide +kernel
theorem d_mo_joins_10 : decode (q_cc m_mo_joins) 10 = .ok (.laload, 1) := by decide +kernel
theorem d_mo_joins_11 : decode (q_cc m_mo_joins) 11 = .ok (.lstore_n 2, 1) := by decide +kernel
theorem d_mo_joins_12 : decode (q_cc m_mo_joins) 12 = .ok (.aload_n 0, 1) := by decide +kernel
theorem d_mo_joins_13 : decode (q_cc m_mo_joins) 13 = .ok (.getfield 136, 3) := by decide +kernel
theorem d_mo_joins_16 : decode (q_cc m_mo_joins) 16 = .ok (.aload_n 0, 1) := by decide +kernel
theorem d_mo_joins_17 : decode (q_cc m_mo_joins) 17 = .ok (.getfield 390, 3) := by decide +kernel
theorem d_mo_joins_20 : decode (q_cc m_mo_joins) 20 = .ok (.iconst 2, 1) := by decide +kernel
theorem d_mo_joins_21 : decode (q_cc m_mo_joins) 21 = .ok (.isub, 1) := by decide +kernel
theorem d_mo_joins_22 : decode (q_cc m_mo_joins) 22 = .ok (.laload, 1) := by decide +kernel
theorem d_mo_joins_23 : decode (q_cc m_mo_joins) 23 = .ok (.lstore 4, 2) := by decide +kernel
theorem d_mo_joins_25 : decode (q_cc m_mo_joins) 25 = .ok (.aload_n 0, 1) := by decide +kernel
theorem d_mo_joins_26 : decode (q_cc m_mo_joins) 26 = .ok (.dup, 1) := by decide +kernel
theorem d_mo_joins_27 : decode (q_cc m_mo_joins) 27 = .ok (.getfield 390, 3) := by decide +kernel
theorem d_mo_joins_30 : decode (q_cc m_mo_joins) 30 = .ok (.iconst 2, 1) := by decide +kernel
theorem d_mo_joins_31 : decode (q_cc m_mo_joins) 31 = .ok (.isub, 1) := by decide +kernel
theorem d_mo_joins_32 : decode (q_cc m_mo_joins) 32 = .ok (.putfield 390, 3) := by decide +kernel
theorem d_mo_joins_35 : decode (q_cc m_mo_joins) 35 = .ok (.iload_n 1, 1) := by decide +kernel
theorem d_mo_joins_36 : decode (q_cc m_mo_joins) 36 = .ok (.tableswitch 235 1 14 #[72, 86, 100, 114, 127, 147, 235, 235, 235, 235, 167, 186, 205, 224], 72) := by decide +kernel
theorem d_mo_joins_108 : decode (q_cc m_mo_joins) 108 = .ok (.aload_n 0, 1) := by decide +kernel
theorem d_mo_joins_109 : decode (q_cc m_mo_joins) 109 = .ok (.lload 4, 2) := by decide +kernel
theorem d_mo_joins_111 : decode (q_cc m_mo_joins) 111 = .ok (.lload_n 2, 1) := by decide +kernel
theorem d_mo_joins_112 : decode (q_cc m_mo_joins) 112 = .ok (.ladd, 1) := by decide +kernel
theorem d_mo_joins_113 : decode (q_cc m_mo_joins) 113 = .ok (.invokestatic 393, 3) := by decide +kernel
theorem d_mo_joins_116 : decode (q_cc m_mo_joins) 116 = .ok (.invokevirtual 397, 3) := by decide +kernel
theorem d_mo_joins_119 : decode (q_cc m_mo_joins) 119 = .ok (.goto 170, 3) := by decide +kernel
theorem d_mo_joins_122 : decode (q_cc m_mo_joins) 122 = .ok (.aload_n 0, 1) := by decide +kernel
theorem d_mo_joins_123 : decode (q_cc m_mo_joins) 123 = .ok (.lload 4, 2) := by decide +kernel
theorem d_mo_joins_125 : decode (q_cc m_mo_joins) 125 = .ok (.lload_n 2, 1) := by decide +kernel
theorem d_mo_joins_126 : decode (q_cc m_mo_joins) 126 = .ok (.lsub, 1) := by decide +kernel
theorem d_mo_joins_127 : decode (q_cc m_mo_joins) 127 = .ok (.invokestatic 393, 3) := by decide +kernel
theorem d_mo_joins_130 : decode (q_cc m_mo_joins) 130 = .ok (.invokevirtual 397, 3) := by decide +kernel
theorem d_mo_joins_133 : decode (q_cc m_mo_joins) 133 = .ok (.goto 156, 3) := by decide +kernel
theorem d_mo_joins_136 : decode (q_cc m_mo_joins) 136 = .ok (.aload_n 0, 1) := by decide +kernel
theorem d_mo_joins_137 : decode (q_cc m_mo_joins) 137 = .ok (.lload 4, 2) := by decide +kernel
theorem d_mo_joins_139 : decode (q_cc m_mo_joins) 139 = .ok (.lload_n 2, 1) := by decide +kernel
theorem d_mo_joins_140 : decode (q_cc m_mo_joins) 140 = .ok (.lmul, 1) := by decide +kernel
theorem d_mo_joins_141 : decode (q_cc m_mo_joins) 141 = .ok (.invokestatic 393, 3) := by decide +kernel
theorem d_mo_joins_144 : decode (q_cc m_mo_joins) 144 = .ok (.invokevirtual 397, 3) := by decide +kernel
theorem d_mo_joins_147 : decode (q_cc m_mo_joins) 147 = .ok (.goto 142, 3) := by decide +kernel
theorem d_mo_joins_150 : decode (q_cc m_mo_joins) 150 = .ok (.aload_n 0, 1) := by decide +kernel
theorem d_mo_joins_151 : decode (q_cc m_mo_joins) 151 = .ok (.lload 4, 2) := by decide +kernel
theorem d_mo_joins_153 : decode (q_cc m_mo_joins) 153 = .ok (.lload_n 2, 1) := by decide +kernel
theorem d_mo_joins_154 : decode (q_cc m_mo_joins) 154 = .ok (.invokestatic 401, 3) := by decide +kernel
theorem d_mo_joins_157 : decode (q_cc m_mo_joins) 157 = .ok (.invokevirtual 397, 3) := by decide +kernel
theorem d_mo_joins_160 : decode (q_cc m_mo_joins) 160 = .ok (.goto 129, 3) := by decide +kernel
theorem d_mo_joins_163 : decode (q_cc m_mo_joins) 163 = .ok (.aload_n 0, 1) := by decide +kernel
theorem d_mo_joins_164 : decode (q_cc m_mo_joins) 164 = .ok (.lload 4, 2) := by decide +kernel
theorem d_mo_joins_166 : decode (q_cc m_mo_joins) 166 = .ok (.lload_n 2, 1) := by decide +kernel
theorem d_mo_joins_167 : decode (q_cc m_mo_joins) 167 = .ok (.lcmp, 1) := by decide +kernel
theorem d_mo_joins_168 : decode (q_cc m_mo_joins) 168 = .ok (.ifCond .ge 8, 3) := by decide +kernel
theorem d_mo_joins_171 : decode (q_cc m_mo_joins) 171 = .ok (.lload 4, 2) := by decide +kernel
theorem d_mo_joins_173 : decode (q_cc m_mo_joins) 173 = .ok (.goto 4, 3) := by decide +kernel
theorem d_mo_joins_176 : decode (q_cc m_mo_joins) 176 = .ok (.lload_n 2, 1) := by decide +kernel
theorem d_mo_joins_177 : decode (q_cc m_mo_joins) 177 = .ok (.invokevirtual 397, 3) := by decide +kernel
theorem d_mo_joins_180 : decode (q_cc m_mo_joins) 180 = .ok (.goto 109, 3) := by decide +kernel
theorem d_mo_joins_183 : decode (q_cc m_mo_joins) 183 = .ok (.aload_n 0, 1) := by decide +kernel
theorem d_mo_joins_184 : decode (q_cc m_mo_joins) 184 = .ok (.lload 4, 2) := by decide +kernel
theorem d_mo_joins_186 : decode (q_cc m_mo_joins) 186 = .ok (.lload_n 2, 1) := by decide +kernel
theorem d_mo_joins_187 : decode (q_cc m_mo_joins) 187 = .ok (.lcmp, 1) := by decide +kernel
theorem d_mo_joins_188 : decode (q_cc m_mo_joins) 188 = .ok (.ifCond .le 8, 3) := by decide +kernel
theorem d_mo_joins_191 : decode (q_cc m_mo_joins) 191 = .ok (.lload 4, 2) := by decide +kernel
theorem d_mo_joins_193 : decode (q_cc m_mo_joins) 193 = .ok (.goto 4, 3) := by decide +kernel
theorem d_mo_joins_196 : decode (q_cc m_mo_joins) 196 = .ok (.lload_n 2, 1) := by decide +kernel
theorem d_mo_joins_197 : decode (q_cc m_mo_joins) 197 = .ok (.invokevirtual 397, 3) := by decide +kernel
theorem d_mo_joins_200 : decode (q_cc m_mo_joins) 200 = .ok (.goto 89, 3) := by decide +kernel
theorem d_mo_joins_203 : decode (q_cc m_mo_joins) 203 = .ok (.aload_n 0, 1) := by decide +kernel
theorem d_mo_joins_204 : decode (q_cc m_mo_joins) 204 = .ok (.lload 4, 2) := by decide +kernel
theorem d_mo_joins_206 : decode (q_cc m_mo_joins) 206 = .ok (.lload_n 2, 1) := by decide +kernel
theorem d_mo_joins_207 : decode (q_cc m_mo_joins) 207 = .ok (.lcmp, 1) := by decide +kernel
theorem d_mo_joins_208 : decode (q_cc m_mo_joins) 208 = .ok (.ifCond .ge 7, 3) := by decide +kernel
theorem d_mo_joins_211 : decode (q_cc m_mo_joins) 211 = .ok (.lconst 1, 1) := by decide +kernel
theorem d_mo_joins_212 : decode (q_cc m_mo_joins) 212 = .ok (.goto 4, 3) := by decide +kernel
theorem d_mo_joins_215 : decode (q_cc m_mo_joins) 215 = .ok (.lconst 0, 1) := by decide +kernel
theorem d_mo_joins_216 : decode (q_cc m_mo_joins) 216 = .ok (.invokevirtual 397, 3) := by decide +kernel
theorem d_mo_joins_219 : decode (q_cc m_mo_joins) 219 = .ok (.goto 70, 3) := by decide +kernel
theorem d_mo_joins_222 : decode (q_cc m_mo_joins) 222 = .ok (.aload_n 0, 1) := by decide +kernel
theorem d_mo_joins_223 : decode (q_cc m_mo_joins) 223 = .ok (.lload 4, 2) := by decide +kernel
theorem d_mo_joins_225 : decode (q_cc m_mo_joins) 225 = .ok (.lload_n 2, 1) := by decide +kernel
theorem d_mo_joins_226 : decode (q_cc m_mo_joins) 226 = .ok (.lcmp, 1) := by decide +kernel
theorem d_mo_joins_227 : decode (q_cc m_mo_joins) 227 = .ok (.ifCond .le 7, 3) := by decide +kernel
theorem d_mo_joins_230 : decode (q_cc m_mo_joins) 230 = .ok (.lconst 1, 1) := by decide +kernel
theorem d_mo_joins_231 : decode (q_cc m_mo_joins) 231 = .ok (.goto 4, 3) := by decide +kernel
theorem d_mo_joins_234 : decode (q_cc m_mo_joins) 234 = .ok (.lconst 0, 1) := by decide +kernel
theorem d_mo_joins_235 : decode (q_cc m_mo_joins) 235 = .ok (.invokevirtual 397, 3) := by decide +kernel
theorem d_mo_joins_238 : decode (q_cc m_mo_joins) 238 = .ok (.goto 51, 3) := by decide +kernel
theorem d_mo_joins_241 : decode (q_cc m_mo_joins) 241 = .ok (.aload_n 0, 1) := by decide +kernel
theorem d_mo_joins_242 : decode (q_cc m_mo_joins) 242 = .ok (.lload 4, 2) := by decide +kernel
theorem d_mo_joins_244 : decode (q_cc m_mo_joins) 244 = .ok (.lload_n 2, 1) := by decide +kernel
theorem d_mo_joins_245 : decode (q_cc m_mo_joins) 245 = .ok (.lcmp, 1) := by decide +kernel
theorem d_mo_joins_246 : decode (q_cc m_mo_joins) 246 = .ok (.ifCond .ne 7, 3) := by decide +kernel
theorem d_mo_joins_249 : decode (q_cc m_mo_joins) 249 = .ok (.lconst 1, 1) := by decide +kernel
theorem d_mo_joins_250 : decode (q_cc m_mo_joins) 250 = .ok (.goto 4, 3) := by decide +kernel
theorem d_mo_joins_253 : decode (q_cc m_mo_joins) 253 = .ok (.lconst 0, 1) := by decide +kernel
theorem d_mo_joins_254 : decode (q_cc m_mo_joins) 254 = .ok (.invokevirtual 397, 3) := by decide +kernel
theorem d_mo_joins_257 : decode (q_cc m_mo_joins) 257 = .ok (.goto 32, 3) := by decide +kernel
theorem d_mo_joins_260 : decode (q_cc m_mo_joins) 260 = .ok (.aload_n 0, 1) := by decide +kernel
theorem d_mo_joins_261 : decode (q_cc m_mo_joins) 261 = .ok (.lload 4, 2) := by decide +kernel
theorem d_mo_joins_263 : decode (q_cc m_mo_joins) 263 = .ok (.lload_n 2, 1) := by decide +kernel
theorem d_mo_joins_264 : decode (q_cc m_mo_joins) 264 = .ok (.lmul, 1) := by decide +kernel
theorem d_mo_joins_265 : decode (q_cc m_mo_joins) 265 = .ok (.invokevirtual 397, 3) := by decide +kernel
theorem d_mo_joins_268 : decode (q_cc m_mo_joins) 268 = .ok (.goto 21, 3) := by decide +kernel
theorem d_mo_joins_271 : decode (q_cc m_mo_joins) 271 = .ok (.aload_n 0, 1) := by decide +kernel
theorem d_mo_joins_272 : decode (q_cc m_mo_joins) 272 = .ok (.lload 4, 2) := by decide +kernel
theorem d_mo_joins_274 : decode (q_cc m_mo_joins) 274 = .ok (.lload_n 2, 1) := by decide +kernel
theorem d_mo_joins_275 : decode (q_cc m_mo_joins) 275 = .ok (.ladd, 1) := by decide +kernel
theorem d_mo_joins_276 : decode (q_cc m_mo_joins) 276 = .ok (.lconst 0, 1) := by decide +kernel
theorem d_mo_joins_277 : decode (q_cc m_mo_joins) 277 = .ok (.lcmp, 1) := by decide +kernel
theorem d_mo_joins_278 : decode (q_cc m_mo_joins) 278 = .ok (.ifCond .le 7, 3) := by decide +kernel
theorem d_mo_joins_281 : decode (q_cc m_mo_joins) 281 = .ok (.lconst 1, 1) := by decide +kernel
theorem d_mo_joins_282 : decode (q_cc m_mo_joins) 282 = .ok (.goto 4, 3) := by decide +kernel
theorem d_mo_joins_285 : decode (q_cc m_mo_joins) 285 = .ok (.lconst 0, 1) := by decide +kernel
theorem d_mo_joins_286 : decode (q_cc m_mo_joins) 286 = .ok (.invokevirtual 397, 3) := by decide +kernel
theorem d_mo_joins_289 : decode (q_cc m_mo_joins) 289 = .ok (.return_, 1) := by decide +kernel
theorem d_mo_asked_0 : decode (q_cc m_mo_asked) 0 = .ok (.iload_n 1, 1) := by decide +kernel
theorem d_mo_asked_1 : decode (q_cc m_mo_asked) 1 = .ok (.bipush 18, 2) := by decide +kernel
theorem d_mo_asked_3 : decode (q_cc m_mo_asked) 3 = .ok (.if_icmp .ne 12, 3) := by decide +kernel
theorem d_mo_asked_6 : decode (q_cc m_mo_asked) 6 = .ok (.aload_n 0, 1) := by decide +kernel
theorem d_mo_asked_7 : decode (q_cc m_mo_asked) 7 = .ok (.getfield 139, 3) := by decide +kernel
theorem d_mo_asked_10 : decode (q_cc m_mo_asked) 10 = .ok (.iconst 4, 1) := by decide +kernel
theorem d_mo_asked_11 : decode (q_cc m_mo_asked) 11 = .ok (.iaload, 1) := by decide +kernel
theorem d_mo_asked_12 : decode (q_cc m_mo_asked) 12 = .ok (.goto 27, 3) := by decide +kernel
theorem d_mo_asked_15 : decode (q_cc m_mo_asked) 15 = .ok (.iload_n 1, 1) := by decide +kernel
theorem d_mo_asked_16 : decode (q_cc m_mo_asked) 16 = .ok (.bipush 19, 2) := by decide +kernel
theorem d_mo_asked_18 : decode (q_cc m_mo_asked) 18 = .ok (.if_icmp .ne 12, 3) := by decide +kernel
theorem d_mo_asked_21 : decode (q_cc m_mo_asked) 21 = .ok (.aload_n 0, 1) := by decide +kernel
theorem d_mo_asked_22 : decode (q_cc m_mo_asked) 22 = .ok (.getfield 139, 3) := by decide +kernel
theorem d_mo_asked_25 : decode (q_cc m_mo_asked) 25 = .ok (.iconst 5, 1) := by decide +kernel
theorem d_mo_asked_26 : decode (q_cc m_mo_asked) 26 = .ok (.iaload, 1) := by decide +kernel
theorem d_mo_asked_27 : decode (q_cc m_mo_asked) 27 = .ok (.goto 12, 3) := by decide +kernel
theorem d_mo_asked_30 : decode (q_cc m_mo_asked) 30 = .ok (.aload_n 0, 1) := by decide +kernel
theorem d_mo_asked_31 : decode (q_cc m_mo_asked) 31 = .ok (.getfield 139, 3) := by decide +kernel
theorem d_mo_asked_34 : decode (q_cc m_mo_asked) 34 = .ok (.iload_n 1, 1) := by decide +kernel
theorem d_mo_asked_35 : decode (q_cc m_mo_asked) 35 = .ok (.bipush 7, 2) := by decide +kernel
theorem d_mo_asked_37 : decode (q_cc m_mo_asked) 37 = .ok (.isub, 1) := by decide +kernel
theorem d_mo_asked_38 : decode (q_cc m_mo_asked) 38 = .ok (.iaload, 1) := by decide +kernel
theorem d_mo_asked_39 : decode (q_cc m_mo_asked) 39 = .ok (.ireturn, 1) := by decide +kernel
theorem d_mo_told_0 : decode (q_cc m_mo_told) 0 = .ok (.aload_n 0, 1) := by decide +kernel
theorem d_mo_told_1 : decode (q_cc m_mo_told) 1 = .ok (.iconst 0, 1) := by decide +kernel
theorem d_mo_told_2 : decode (q_cc m_mo_told) 2 = .ok (.putfield 390, 3) := by decide +kernel
theorem d_mo_told_5 : decode (q_cc m_mo_told) 5 = .ok (.iload_n 1, 1) := by decide +kernel
theorem d_mo_told_6 : decode (q_cc m_mo_told) 6 = .ok (.istore_n 3, 1) := by decide +kernel
theorem d_mo_told_7 : decode (q_cc m_mo_told) 7 = .ok (.iload_n 3, 1) := by decide +kernel
theorem d_mo_told_8 : decode (q_cc m_mo_told) 8 = .ok (.iload_n 2, 1) := by decide +kernel
theorem d_mo_told_9 : decode (q_cc m_mo_told) 9 = .ok (.if_icmp .ge 142, 3) := by decide +kernel
theorem d_mo_told_12 : decode (q_cc m_mo_told) 12 = .ok (.aload_n 0, 1) := by decide +kernel
theorem d_mo_told_13 : decode (q_cc m_mo_told) 13 = .ok (.getfield 121, 3) := by decide +kernel
theorem d_mo_told_16 : decode (q_cc m_mo_told) 16 = .ok (.sipush 1600, 3) := by decide +kernel
theorem d_mo_told_19 : decode (q_cc m_mo_told) 19 = .ok (.iload_n 3, 1) := by decide +kernel
theorem d_mo_told_20 : decode (q_cc m_mo_told) 20 = .ok (.iadd, 1) := by decide +kernel
theorem d_mo_told_21 : decode (q_cc m_mo_told) 21 = .ok (.iaload, 1) := by decide +kernel
theorem d_mo_told_22 : decode (q_cc m_mo_told) 22 = .ok (.istore 4, 2) := by decide +kernel
theorem d_mo_told_24 : decode (q_cc m_mo_told) 24 = .ok (.iload 4, 2) := by decide +kernel
theorem d_mo_told_26 : decode (q_cc m_mo_told) 26 = .ok (.sipush 1000, 3) := by decide +kernel
theorem d_mo_told_29 : decode (q_cc m_mo_told) 29 = .ok (.if_icmp .lt 17, 3) := by decide +kernel
theorem d_mo_told_32 : decode (q_cc m_mo_told) 32 = .ok (.aload_n 0, 1) := by decide +kernel
theorem d_mo_told_33 : decode (q_cc m_mo_told) 33 = .ok (.iload 4, 2) := by decide +kernel
theorem d_mo_told_35 : decode (q_cc m_mo_told) 35 = .ok (.sipush 1000, 3) := by decide +kernel
theorem d_mo_told_38 : decode (q_cc m_mo_told) 38 = .ok (.isub, 1) := by decide +kernel
theorem d_mo_told_39 : decode (q_cc m_mo_told) 39 = .ok (.i2l, 1) := by decide +kernel
theorem d_mo_told_40 : decode (q_cc m_mo_told) 40 = .ok (.invokevirtual 397, 3) := by decide +kernel
theorem d_mo_told_43 : decode (q_cc m_mo_told) 43 = .ok (.goto 102, 3) := by decide +kernel
theorem d_mo_told_46 : decode (q_cc m_mo_told) 46 = .ok (.iload 4, 2) := by decide +kernel
theorem d_mo_told_48 : decode (q_cc m_mo_told) 48 = .ok (.bipush 17, 2) := by decide +kernel
theorem d_mo_told_50 : decode (q_cc m_mo_told) 50 = .ok (.if_icmp .ne 11, 3) := by decide +kernel
theorem d_mo_told_53 : decode (q_cc m_mo_told) 53 = .ok (.aload_n 0, 1) := by decide +kernel
theorem d_mo_told_54 : decode (q_cc m_mo_told) 54 = .ok (.lconst 1, 1) := by decide +kernel
theorem d_mo_told_55 : decode (q_cc m_mo_told) 55 = .ok (.invokevirtual 397, 3) := by decide +kernel
theorem d_mo_told_58 : decode (q_cc m_mo_told) 58 = .ok (.goto 87, 3) := by decide +kernel
theorem d_mo_told_61 : decode (q_cc m_mo_told) 61 = .ok (.iload 4, 2) := by decide +kernel
theorem d_mo_told_63 : decode (q_cc m_mo_told) 63 = .ok (.bipush 16, 2) := by decide +kernel
theorem d_mo_told_65 : decode (q_cc m_mo_told) 65 = .ok (.if_icmp .ne 30, 3) := by decide +kernel
theorem d_mo_told_68 : decode (q_cc m_mo_told) 68 = .ok (.aload_n 0, 1) := by decide +kernel
theorem d_mo_told_69 : decode (q_cc m_mo_told) 69 = .ok (.getfield 136, 3) := by decide +kernel
theorem d_mo_told_72 : decode (q_cc m_mo_told) 72 = .ok (.aload_n 0, 1) := by decide +kernel
theorem d_mo_told_73 : decode (q_cc m_mo_told) 73 = .ok (.getfield 390, 3) := by decide +kernel
theorem d_mo_told_76 : decode (q_cc m_mo_told) 76 = .ok (.iconst 1, 1) := by decide +kernel
theorem d_mo_told_77 : decode (q_cc m_mo_told) 77 = .ok (.isub, 1) := by decide +kernel
theorem d_mo_told_78 : decode (q_cc m_mo_told) 78 = .ok (.lconst 1, 1) := by decide +kernel
theorem d_mo_told_79 : decode (q_cc m_mo_told) 79 = .ok (.aload_n 0, 1) := by decide +kernel
theorem d_mo_told_80 : decode (q_cc m_mo_told) 80 = .ok (.getfield 136, 3) := by decide +kernel
theorem d_mo_told_83 : decode (q_cc m_mo_told) 83 = .ok (.aload_n 0, 1) := by decide +kernel
theorem d_mo_told_84 : decode (q_cc m_mo_told) 84 = .ok (.getfield 390, 3) := by decide +kernel
theorem d_mo_told_87 : decode (q_cc m_mo_told) 87 = .ok (.iconst 1, 1) := by decide +kernel
theorem d_mo_told_88 : decode (q_cc m_mo_told) 88 = .ok (.isub, 1) := by decide +kernel
theorem d_mo_told_89 : decode (q_cc m_mo_told) 89 = .ok (.laload, 1) := by decide +kernel
theorem d_mo_told_90 : decode (q_cc m_mo_told) 90 = .ok (.lsub, 1) := by decide +kernel
theorem d_mo_told_91 : decode (q_cc m_mo_told) 91 = .ok (.lastore, 1) := by decide +kernel
theorem d_mo_told_92 : decode (q_cc m_mo_told) 92 = .ok (.goto 53, 3) := by decide +kernel
theorem d_mo_told_95 : decode (q_cc m_mo_told) 95 = .ok (.iload 4, 2) := by decide +kernel
theorem d_mo_told_97 : decode (q_cc m_mo_told) 97 = .ok (.i2l, 1) := by decide +kernel
theorem d_mo_told_98 : decode (q_cc m_mo_told) 98 = .ok (.ldc2_w 405, 3) := by decide +kernel
theorem d_mo_told_101 : decode (q_cc m_mo_told) 101 = .ok (.ldc2_w 407, 3) := by decide +kernel
theorem d_mo_told_104 : decode (q_cc m_mo_told) 104 = .ok (.invokestatic 225, 3) := by decide +kernel
theorem d_mo_told_107 : decode (q_cc m_mo_told) 107 = .ok (.ifCond .ne 18, 3) := by decide +kernel
theorem d_mo_told_110 : decode (q_cc m_mo_told) 110 = .ok (.iload 4, 2) := by decide +kernel
theorem d_mo_told_112 : decode (q_cc m_mo_told) 112 = .ok (.i2l, 1) := by decide +kernel
theorem d_mo_told_113 : decode (q_cc m_mo_told) 113 = .ok (.ldc2_w 409, 3) := by decide +kernel
theorem d_mo_told_116 : decode (q_cc m_mo_told) 116 = .ok (.ldc2_w 411, 3) := by decide +kernel
theorem d_mo_told_119 : decode (q_cc m_mo_told) 119 = .ok (.invokestatic 225, 3) := by decide +kernel
theorem d_mo_told_122 : decode (q_cc m_mo_told) 122 = .ok (.ifCond .eq 17, 3) := by decide +kernel
theorem d_mo_told_125 : decode (q_cc m_mo_told) 125 = .ok (.aload_n 0, 1) := by decide +kernel
theorem d_mo_told_126 : decode (q_cc m_mo_told) 126 = .ok (.aload_n 0, 1) := by decide +kernel
theorem d_mo_told_127 : decode (q_cc m_mo_told) 127 = .ok (.iload 4, 2) := by decide +kernel
theorem d_mo_told_129 : decode (q_cc m_mo_told) 129 = .ok (.invokevirtual 413, 3) := by decide +kernel
theorem d_mo_told_132 : decode (q_cc m_mo_told) 132 = .ok (.i2l, 1) := by decide +kernel
theorem d_mo_told_133 : decode (q_cc m_mo_told) 133 = .ok (.invokevirtual 397, 3) := by decide +kernel
theorem d_mo_told_136 : decode (q_cc m_mo_told) 136 = .ok (.goto 9, 3) := by decide +kernel
theorem d_mo_told_139 : decode (q_cc m_mo_told) 139 = .ok (.aload_n 0, 1) := by decide +kernel
theorem d_mo_told_140 : decode (q_cc m_mo_told) 140 = .ok (.iload 4, 2) := by decide +kernel
theorem d_mo_told_142 : decode (q_cc m_mo_told) 142 = .ok (.invokevirtual 416, 3) := by decide +kernel
theorem d_mo_told_145 : decode (q_cc m_mo_told) 145 = .ok (.iinc 3 1, 3) := by decide +kernel
theorem d_mo_told_148 : decode (q_cc m_mo_told) 148 = .ok (.goto (-141), 3) := by decide +kernel
theorem d_mo_told_151 : decode (q_cc m_mo_told) 151 = .ok (.aload_n 0, 1) := by decide +kernel
theorem d_mo_told_152 : decode (q_cc m_mo_told) 152 = .ok (.getfield 136, 3) := by decide +kernel
theorem d_mo_told_155 : decode (q_cc m_mo_told) 155 = .ok (.iconst 0, 1) := by decide +kernel
theorem d_mo_told_156 : decode (q_cc m_mo_told) 156 = .ok (.laload, 1) := by decide +kernel
theorem d_mo_told_157 : decode (q_cc m_mo_told) 157 = .ok (.lreturn, 1) := by decide +kernel
theorem d_mo_seenMany_0 : decode (q_cc m_mo_seenMany) 0 = .ok (.aload_n 0, 1) := by decide +kernel
theorem d_mo_seenMany_1 : decode (q_cc m_mo_seenMany) 1 = .ok (.getfield 93, 3) := by decide +kernel
theorem d_mo_seenMany_4 : decode (q_cc m_mo_seenMany) 4 = .ok (.bipush 12, 2) := by decide +kernel
theorem d_mo_seenMany_6 : decode (q_cc m_mo_seenMany) 6 = .ok (.iaload, 1) := by decide +kernel
theorem d_mo_seenMany_7 : decode (q_cc m_mo_seenMany) 7 = .ok (.ireturn, 1) := by decide +kernel
theorem d_mo_persons_0 : decode (q_cc m_mo_persons) 0 = .ok (.aload_n 0, 1) := by decide +kernel
theorem d_mo_persons_1 : decode (q_cc m_mo_persons) 1 = .ok (.getfield 93, 3) := by decide +kernel
theorem d_mo_persons_4 : decode (q_cc m_mo_persons) 4 = .ok (.bipush 8, 2) := by decide +kernel
theorem d_mo_persons_6 : decode (q_cc m_mo_persons) 6 = .ok (.iaload, 1) := by decide +kernel
theorem d_mo_persons_7 : decode (q_cc m_mo_persons) 7 = .ok (.ireturn, 1) := by decide +kernel
theorem d_mo_shadeMany_0 : decode (q_cc m_mo_shadeMany) 0 = .ok (.aload_n 0, 1) := by decide +kernel
theorem d_mo_shadeMany_1 : decode (q_cc m_mo_shadeMany) 1 = .ok (.getfield 93, 3) := by decide +kernel
theorem d_mo_shadeMany_4 : decode (q_cc m_mo_shadeMany) 4 = .ok (.bipush 9, 2) := by decide +kernel
theorem d_mo_shadeMany_6 : decode (q_cc m_mo_shadeMany) 6 = .ok (.iaload, 1) := by decide +kernel
theorem d_mo_shadeMany_7 : decode (q_cc m_mo_shadeMany) 7 = .ok (.ireturn, 1) := by decide +kernel
theorem d_mo_personOf_0 : decode (q_cc m_mo_personOf) 0 = .ok (.aload_n 0, 1) := by decide +kernel
theorem d_mo_personOf_1 : decode (q_cc m_mo_personOf) 1 = .ok (.getfield 118, 3) := by decide +kernel
theorem d_mo_personOf_4 : decode (q_cc m_mo_personOf) 4 = .ok (.bipush 120, 2) := by decide +kernel
theorem d_mo_personOf_6 : decode (q_cc m_mo_personOf) 6 = .ok (.iconst 5, 1) := by decide +kernel
theorem d_mo_personOf_7 : decode (q_cc m_mo_personOf) 7 = .ok (.iload_n 1, 1) := by decide +kernel
theorem d_mo_personOf_8 : decode (q_cc m_mo_personOf) 8 = .ok (.imul, 1) := by decide +kernel
theorem d_mo_personOf_9 : decode (q_cc m_mo_personOf) 9 = .ok (.iadd, 1) := by decide +kernel
theorem d_mo_personOf_10 : decode (q_cc m_mo_personOf) 10 = .ok (.iaload, 1) := by decide +kernel
theorem d_mo_personOf_11 : decode (q_cc m_mo_personOf) 11 = .ok (.ireturn, 1) := by decide +kernel
theorem d_mo_placeOf_0 : decode (q_cc m_mo_placeOf) 0 = .ok (.aload_n 0, 1) := by decide +kernel
theorem d_mo_placeOf_1 : decode (q_cc m_mo_placeOf) 1 = .ok (.getfield 118, 3) := by decide +kernel
theorem d_mo_placeOf_4 : decode (q_cc m_mo_placeOf) 4 = .ok (.bipush 120, 2) := by decide +kernel
theorem d_mo_placeOf_6 : decode (q_cc m_mo_placeOf) 6 = .ok (.iconst 5, 1) := by decide +kernel
theorem d_mo_placeOf_7 : decode (q_cc m_mo_placeOf) 7 = .ok (.iload_n 1, 1) := by decide +kernel
theorem d_mo_placeOf_8 : decode (q_cc m_mo_placeOf) 8 = .ok (.imul, 1) := by decide +kernel
theorem d_mo_placeOf_9 : decode (q_cc m_mo_placeOf) 9 = .ok (.iadd, 1) := by decide +kernel
theorem d_mo_placeOf_10 : decode (q_cc m_mo_placeOf) 10 = .ok (.iconst 1, 1) := by decide +kernel
theorem d_mo_placeOf_11 : decode (q_cc m_mo_placeOf) 11 = .ok (.iadd, 1) := by decide +kernel
theorem d_mo_placeOf_12 : decode (q_cc m_mo_placeOf) 12 = .ok (.iaload, 1) := by decide +kernel
theorem d_mo_placeOf_13 : decode (q_cc m_mo_placeOf) 13 = .ok (.ireturn, 1) := by decide +kernel
theorem d_mo_hourOf_0 : decode (q_cc m_mo_hourOf) 0 = .ok (.aload_n 0, 1) := by decide +kernel
theorem d_mo_hourOf_1 : decode (q_cc m_mo_hourOf) 1 = .ok (.getfield 118, 3) := by decide +kernel
theorem d_mo_hourOf_4 : decode (q_cc m_mo_hourOf) 4 = .ok (.bipush 120, 2) := by decide +kernel
theorem d_mo_hourOf_6 : decode (q_cc m_mo_hourOf) 6 = .ok (.iconst 5, 1) := by decide +kernel
theorem d_mo_hourOf_7 : decode (q_cc m_mo_hourOf) 7 = .ok (.iload_n 1, 1) := by decide +kernel
theorem d_mo_hourOf_8 : decode (q_cc m_mo_hourOf) 8 = .ok (.imul, 1) := by decide +kernel
theorem d_mo_hourOf_9 : decode (q_cc m_mo_hourOf) 9 = .ok (.iadd, 1) := by decide +kernel
theorem d_mo_hourOf_10 : decode (q_cc m_mo_hourOf) 10 = .ok (.iconst 2, 1) := by decide +kernel
theorem d_mo_hourOf_11 : decode (q_cc m_mo_hourOf) 11 = .ok (.iadd, 1) := by decide +kernel
theorem d_mo_hourOf_12 : decode (q_cc m_mo_hourOf) 12 = .ok (.iaload, 1) := by decide +kernel
theorem d_mo_hourOf_13 : decode (q_cc m_mo_hourOf) 13 = .ok (.ireturn, 1) := by decide +kernel
theorem d_mo_areFarEnough_0 : decode (q_cc m_mo_areFarEnough) 0 = .ok (.iload_n 2, 1) := by decide +kernel
theorem d_mo_areFarEnough_1 : decode (q_cc m_mo_areFarEnough) 1 = .ok (.iload 4, 2) := by decide +kernel
theorem d_mo_areFarEnough_3 : decode (q_cc m_mo_areFarEnough) 3 = .ok (.if_icmp .ge 10, 3) := by decide +kernel
theorem d_mo_areFarEnough_6 : decode (q_cc m_mo_areFarEnough) 6 = .ok (.iload 4, 2) := by decide +kernel
theorem d_mo_areFarEnough_8 : decode (q_cc m_mo_areFarEnough) 8 = .ok (.iload_n 2, 1) := by decide +kernel
theorem d_mo_areFarEnough_9 : decode (q_cc m_mo_areFarEnough) 9 = .ok (.isub, 1) := by decide +kernel
theorem d_mo_areFarEnough_10 : decode (q_cc m_mo_areFarEnough) 10 = .ok (.goto 7, 3) := by decide +kernel
theorem d_mo_areFarEnough_13 : decode (q_cc m_mo_areFarEnough) 13 = .ok (.iload_n 2, 1) := by decide +kernel
theorem d_mo_areFarEnough_14 : decode (q_cc m_mo_areFarEnough) 14 = .ok (.iload 4, 2) := by decide +kernel
theorem d_mo_areFarEnough_16 : decode (q_cc m_mo_areFarEnough) 16 = .ok (.isub, 1) := by decide +kernel
theorem d_mo_areFarEnough_17 : decode (q_cc m_mo_areFarEnough) 17 = .ok (.istore 5, 2) := by decide +kernel
theorem d_mo_areFarEnough_19 : decode (q_cc m_mo_areFarEnough) 19 = .ok (.aload_n 0, 1) := by decide +kernel
theorem d_mo_areFarEnough_20 : decode (q_cc m_mo_areFarEnough) 20 = .ok (.getfield 115, 3) := by decide +kernel
theorem d_mo_areFarEnough_23 : decode (q_cc m_mo_areFarEnough) 23 = .ok (.bipush 64, 2) := by decide +kernel
theorem d_mo_areFarEnough_25 : decode (q_cc m_mo_areFarEnough) 25 = .ok (.bipush 8, 2) := by decide +kernel
theorem d_mo_areFarEnough_27 : decode (q_cc m_mo_areFarEnough) 27 = .ok (.iload_n 1, 1) := by decide +kernel
theorem d_mo_areFarEnough_28 : decode (q_cc m_mo_areFarEnough) 28 = .ok (.imul, 1) := by decide +kernel
theorem d_mo_areFarEnough_29 : decode (q_cc m_mo_areFarEnough) 29 = .ok (.iadd, 1) := by decide +kernel
theorem d_mo_areFarEnough_30 : decode (q_cc m_mo_areFarEnough) 30 = .ok (.iload_n 3, 1) := by decide +kernel
theorem d_mo_areFarEnough_31 : decode (q_cc m_mo_areFarEnough) 31 = .ok (.iadd, 1) := by decide +kernel
theorem d_mo_areFarEnough_32 : decode (q_cc m_mo_areFarEnough) 32 = .ok (.iaload, 1) := by decide +kernel
theorem d_mo_areFarEnough_33 : decode (q_cc m_mo_areFarEnough) 33 = .ok (.iload 5, 2) := by decide +kernel
theorem d_mo_areFarEnough_35 : decode (q_cc m_mo_areFarEnough) 35 = .ok (.if_icmp .gt 7, 3) := by decide +kernel
theorem d_mo_areFarEnough_38 : decode (q_cc m_mo_areFarEnough) 38 = .ok (.iconst 1, 1) := by decide +kernel
theorem d_mo_areFarEnough_39 : decode (q_cc m_mo_areFarEnough) 39 = .ok (.goto 4, 3) := by decide +kernel
theorem d_mo_areFarEnough_42 : decode (q_cc m_mo_areFarEnough) 42 = .ok (.iconst 0, 1) := by decide +kernel
theorem d_mo_areFarEnough_43 : decode (q_cc m_mo_areFarEnough) 43 = .ok (.ireturn, 1) := by decide +kernel
theorem d_mo_isSeen_0 : decode (q_cc m_mo_isSeen) 0 = .ok (.iload_n 1, 1) := by decide +kernel
theorem d_mo_isSeen_1 : decode (q_cc m_mo_isSeen) 1 = .ok (.i2l, 1) := by decide +kernel
theorem d_mo_isSeen_2 : decode (q_cc m_mo_isSeen) 2 = .ok (.lconst 0, 1) := by decide +kernel
theorem d_mo_isSeen_3 : decode (q_cc m_mo_isSeen) 3 = .ok (.aload_n 0, 1) := by decide +kernel
theorem d_mo_isSeen_4 : decode (q_cc m_mo_isSeen) 4 = .ok (.invokevirtual 328, 3) := by decide +kernel
theorem d_mo_isSeen_7 : decode (q_cc m_mo_isSeen) 7 = .ok (.iconst 1, 1) := by decide +kernel
theorem d_mo_isSeen_8 : decode (q_cc m_mo_isSeen) 8 = .ok (.isub, 1) := by decide +kernel
theorem d_mo_isSeen_9 : decode (q_cc m_mo_isSeen) 9 = .ok (.i2l, 1) := by decide +kernel
theorem d_mo_isSeen_10 : decode (q_cc m_mo_isSeen) 10 = .ok (.invokestatic 225, 3) := by decide +kernel
theorem d_mo_isSeen_13 : decode (q_cc m_mo_isSeen) 13 = .ok (.ireturn, 1) := by decide +kernel
theorem d_mo_isShade_0 : decode (q_cc m_mo_isShade) 0 = .ok (.iload_n 1, 1) := by decide +kernel
theorem d_mo_isShade_1 : decode (q_cc m_mo_isShade) 1 = .ok (.i2l, 1) := by decide +kernel
theorem d_mo_isShade_2 : decode (q_cc m_mo_isShade) 2 = .ok (.lconst 0, 1) := by decide +kernel
theorem d_mo_isShade_3 : decode (q_cc m_mo_isShade) 3 = .ok (.aload_n 0, 1) := by decide +kernel
theorem d_mo_isShade_4 : decode (q_cc m_mo_isShade) 4 = .ok (.invokevirtual 419, 3) := by decide +kernel
theorem d_mo_isShade_7 : decode (q_cc m_mo_isShade) 7 = .ok (.iconst 1, 1) := by decide +kernel
theorem d_mo_isShade_8 : decode (q_cc m_mo_isShade) 8 = .ok (.isub, 1) := by decide +kernel
theorem d_mo_isShade_9 : decode (q_cc m_mo_isShade) 9 = .ok (.i2l, 1) := by decide +kernel
theorem d_mo_isShade_10 : decode (q_cc m_mo_isShade) 10 = .ok (.invokestatic 225, 3) := by decide +kernel
theorem d_mo_isShade_13 : decode (q_cc m_mo_isShade) 13 = .ok (.ireturn, 1) := by decide +kernel
theorem d_mo_isPerson_0 : decode (q_cc m_mo_isPerson) 0 = .ok (.iload_n 1, 1) := by decide +kernel
theorem d_mo_isPerson_1 : decode (q_cc m_mo_isPerson) 1 = .ok (.i2l, 1) := by decide +kernel
theorem d_mo_isPerson_2 : decode (q_cc m_mo_isPerson) 2 = .ok (.lconst 0, 1) := by decide +kernel
theorem d_mo_isPerson_3 : decode (q_cc m_mo_isPerson) 3 = .ok (.aload_n 0, 1) := by decide +kernel
theorem d_mo_isPerson_4 : decode (q_cc m_mo_isPerson) 4 = .ok (.invokevirtual 422, 3) := by decide +kernel
theorem d_mo_isPerson_7 : decode (q_cc m_mo_isPerson) 7 = .ok (.iconst 1, 1) := by decide +kernel
theorem d_mo_isPerson_8 : decode (q_cc m_mo_isPerson) 8 = .ok (.isub, 1) := by decide +kernel
theorem d_mo_isPerson_9 : decode (q_cc m_mo_isPerson) 9 = .ok (.i2l, 1) := by decide +kernel
theorem d_mo_isPerson_10 : decode (q_cc m_mo_isPerson) 10 = .ok (.invokestatic 225, 3) := by decide +kernel
theorem d_mo_isPerson_13 : decode (q_cc m_mo_isPerson) 13 = .ok (.ireturn, 1) := by decide +kernel
theorem d_mo_passes_0 : decode (q_cc m_mo_passes) 0 = .ok (.iconst 0, 1) := by decide +kernel
theorem d_mo_passes_1 : decode (q_cc m_mo_passes) 1 = .ok (.istore_n 1, 1) := by decide +kernel
theorem d_mo_passes_2 : decode (q_cc m_mo_passes) 2 = .ok (.iload_n 1, 1) := by decide +kernel
theorem d_mo_passes_3 : decode (q_cc m_mo_passes) 3 = .ok (.aload_n 0, 1) := by decide +kernel
theorem d_mo_passes_4 : decode (q_cc m_mo_passes) 4 = .ok (.invokevirtual 419, 3) := by decide +kernel
theorem d_mo_passes_7 : decode (q_cc m_mo_passes) 7 = .ok (.if_icmp .ge 272, 3) := by decide +kernel
theorem d_mo_passes_10 : decode (q_cc m_mo_passes) 10 = .ok (.iconst 0, 1) := by decide +kernel
theorem d_mo_passes_11 : decode (q_cc m_mo_passes) 11 = .ok (.istore_n 2, 1) := by decide +kernel
theorem d_mo_passes_12 : decode (q_cc m_mo_passes) 12 = .ok (.iload_n 2, 1) := by decide +kernel
theorem d_mo_passes_13 : decode (q_cc m_mo_passes) 13 = .ok (.aload_n 0, 1) := by decide +kernel
theorem d_mo_passes_14 : decode (q_cc m_mo_passes) 14 = .ok (.invokevirtual 328, 3) := by decide +kernel
theorem d_mo_passes_17 : decode (q_cc m_mo_passes) 17 = .ok (.if_icmp .ge 256, 3) := by decide +kernel
theorem d_mo_passes_20 : decode (q_cc m_mo_passes) 20 = .ok (.sipush 1000, 3) := by decide +kernel
theorem d_mo_passes_23 : decode (q_cc m_mo_passes) 23 = .ok (.istore_n 3, 1) := by decide +kernel
theorem d_mo_passes_24 : decode (q_cc m_mo_passes) 24 = .ok (.iconst 0, 1) := by decide +kernel
theorem d_mo_passes_25 : decode (q_cc m_mo_passes) 25 = .ok (.istore 4, 2) := by decide +kernel
theorem d_mo_passes_27 : decode (q_cc m_mo_passes) 27 = .ok (.iconst 0, 1) := by decide +kernel
theorem d_mo_passes_28 : decode (q_cc m_mo_passes) 28 = .ok (.istore 5, 2) := by decide +kernel
theorem d_mo_passes_30 : decode (q_cc m_mo_passes) 30 = .ok (.iload 5, 2) := by decide +kernel
theorem d_mo_passes_32 : decode (q_cc m_mo_passes) 32 = .ok (.aload_n 0, 1) := by decide +kernel
theorem d_mo_passes_33 : decode (q_cc m_mo_passes) 33 = .ok (.getfield 93, 3) := by decide +kernel
theorem d_mo_passes_36 : decode (q_cc m_mo_passes) 36 = .ok (.bipush 7, 2) := by decide +kernel
theorem d_mo_passes_38 : decode (q_cc m_mo_passes) 38 = .ok (.iaload, 1) := by decide +kernel
theorem d_mo_passes_39 : decode (q_cc m_mo_passes) 39 = .ok (.if_icmp .ge 126, 3) := by decide +kernel
theorem d_mo_passes_42 : decode (q_cc m_mo_passes) 42 = .ok (.aload_n 0, 1) := by decide +kernel
theorem d_mo_passes_43 : decode (q_cc m_mo_passes) 43 = .ok (.getfield 106, 3) := by decide +kernel
theorem d_mo_passes_46 : decode (q_cc m_mo_passes) 46 = .ok (.bipush 30, 2) := by decide +kernel
theorem d_mo_passes_48 : decode (q_cc m_mo_passes) 48 = .ok (.bipush 6, 2) := by decide +kernel
theorem d_mo_passes_50 : decode (q_cc m_mo_passes) 50 = .ok (.iload_n 1, 1) := by decide +kernel
theorem d_mo_passes_51 : decode (q_cc m_mo_passes) 51 = .ok (.imul, 1) := by decide +kernel
theorem d_mo_passes_52 : decode (q_cc m_mo_passes) 52 = .ok (.iadd, 1) := by decide +kernel
theorem d_mo_passes_53 : decode (q_cc m_mo_passes) 53 = .ok (.iload 5, 2) := by decide +kernel
theorem d_mo_passes_55 : decode (q_cc m_mo_passes) 55 = .ok (.iadd, 1) := by decide +kernel
theorem d_mo_passes_56 : decode (q_cc m_mo_passes) 56 = .ok (.iaload, 1) := by decide +kernel
theorem d_mo_passes_57 : decode (q_cc m_mo_passes) 57 = .ok (.aload_n 0, 1) := by decide +kernel
theorem d_mo_passes_58 : decode (q_cc m_mo_passes) 58 = .ok (.getfield 103, 3) := by decide +kernel
theorem d_mo_passes_61 : decode (q_cc m_mo_passes) 61 = .ok (.bipush 48, 2) := by decide +kernel
theorem d_mo_passes_63 : decode (q_cc m_mo_passes) 63 = .ok (.bipush 6, 2) := by decide +kernel
theorem d_mo_passes_65 : decode (q_cc m_mo_passes) 65 = .ok (.aload_n 0, 1) := by decide +kernel
theorem d_mo_passes_66 : decode (q_cc m_mo_passes) 66 = .ok (.iload_n 2, 1) := by decide +kernel
theorem d_mo_passes_67 : decode (q_cc m_mo_passes) 67 = .ok (.invokevirtual 425, 3) := by decide +kernel
theorem d_mo_passes_70 : decode (q_cc m_mo_passes) 70 = .ok (.imul, 1) := by decide +kernel
theorem d_mo_passes_71 : decode (q_cc m_mo_passes) 71 = .ok (.iadd, 1) := by decide +kernel
theorem d_mo_passes_72 : decode (q_cc m_mo_passes) 72 = .ok (.iload 5, 2) := by decide +kernel
theorem d_mo_passes_74 : decode (q_cc m_mo_passes) 74 = .ok (.iadd, 1) := by decide +kernel
theorem d_mo_passes_75 : decode (q_cc m_mo_passes) 75 = .ok (.iaload, 1) := by decide +kernel
theorem d_mo_passes_76 : decode (q_cc m_mo_passes) 76 = .ok (.if_icmp .ne 6, 3) := by decide +kernel
theorem d_mo_passes_79 : decode (q_cc m_mo_passes) 79 = .ok (.goto 80, 3) := by decide +kernel
theorem d_mo_passes_82 : decode (q_cc m_mo_passes) 82 = .ok (.iinc 4 1, 3) := by decide +kernel
theorem d_mo_passes_85 : decode (q_cc m_mo_passes) 85 = .ok (.aload_n 0, 1) := by decide +kernel
theorem d_mo_passes_86 : decode (q_cc m_mo_passes) 86 = .ok (.getfield 109, 3) := by decide +kernel
theorem d_mo_passes_89 : decode (q_cc m_mo_passes) 89 = .ok (.bipush 30, 2) := by decide +kernel
theorem d_mo_passes_91 : decode (q_cc m_mo_passes) 91 = .ok (.bipush 6, 2) := by decide +kernel
theorem d_mo_passes_93 : decode (q_cc m_mo_passes) 93 = .ok (.iload_n 1, 1) := by decide +kernel
theorem d_mo_passes_94 : decode (q_cc m_mo_passes) 94 = .ok (.imul, 1) := by decide +kernel
theorem d_mo_passes_95 : decode (q_cc m_mo_passes) 95 = .ok (.iadd, 1) := by decide +kernel
theorem d_mo_passes_96 : decode (q_cc m_mo_passes) 96 = .ok (.iload 5, 2) := by decide +kernel
theorem d_mo_passes_98 : decode (q_cc m_mo_passes) 98 = .ok (.iadd, 1) := by decide +kernel
theorem d_mo_passes_99 : decode (q_cc m_mo_passes) 99 = .ok (.iaload, 1) := by decide +kernel
theorem d_mo_passes_100 : decode (q_cc m_mo_passes) 100 = .ok (.iconst 1, 1) := by decide +kernel
theorem d_mo_passes_101 : decode (q_cc m_mo_passes) 101 = .ok (.if_icmp .ne 6, 3) := by decide +kernel
theorem d_mo_passes_104 : decode (q_cc m_mo_passes) 104 = .ok (.goto 55, 3) := by decide +kernel
theorem d_mo_passes_107 : decode (q_cc m_mo_passes) 107 = .ok (.iload_n 3, 1) := by decide +kernel
theorem d_mo_passes_108 : decode (q_cc m_mo_passes) 108 = .ok (.sipush 10000, 3) := by decide +kernel
theorem d_mo_passes_111 : decode (q_cc m_mo_passes) 111 = .ok (.aload_n 0, 1) := by decide +kernel
theorem d_mo_passes_112 : decode (q_cc m_mo_passes) 112 = .ok (.getfield 100, 3) := by decide +kernel
theorem d_mo_passes_115 : decode (q_cc m_mo_passes) 115 = .ok (.bipush 12, 2) := by decide +kernel
theorem d_mo_passes_117 : decode (q_cc m_mo_passes) 117 = .ok (.bipush 6, 2) := by decide +kernel
theorem d_mo_passes_119 : decode (q_cc m_mo_passes) 119 = .ok (.aload_n 0, 1) := by decide +kernel
theorem d_mo_passes_120 : decode (q_cc m_mo_passes) 120 = .ok (.getfield 118, 3) := by decide +kernel
theorem d_mo_passes_123 : decode (q_cc m_mo_passes) 123 = .ok (.bipush 120, 2) := by decide +kernel
theorem d_mo_passes_125 : decode (q_cc m_mo_passes) 125 = .ok (.iconst 5, 1) := by decide +kernel
theorem d_mo_passes_126 : decode (q_cc m_mo_passes) 126 = .ok (.iload_n 2, 1) := by decide +kernel
theorem d_mo_passes_127 : decode (q_cc m_mo_passes) 127 = .ok (.imul, 1) := by decide +kernel
theorem d_mo_passes_128 : decode (q_cc m_mo_passes) 128 = .ok (.iadd, 1) := by decide +kernel
theorem d_mo_passes_129 : decode (q_cc m_mo_passes) 129 = .ok (.iconst 4, 1) := by decide +kernel
theorem d_mo_passes_130 : decode (q_cc m_mo_passes) 130 = .ok (.iadd, 1) := by decide +kernel
theorem d_mo_passes_131 : decode (q_cc m_mo_passes) 131 = .ok (.iaload, 1) := by decide +kernel
theorem d_mo_passes_132 : decode (q_cc m_mo_passes) 132 = .ok (.imul, 1) := by decide +kernel
theorem d_mo_passes_133 : decode (q_cc m_mo_passes) 133 = .ok (.iadd, 1) := by decide +kernel
theorem d_mo_passes_134 : decode (q_cc m_mo_passes) 134 = .ok (.iload 5, 2) := by decide +kernel
theorem d_mo_passes_136 : decode (q_cc m_mo_passes) 136 = .ok (.iadd, 1) := by decide +kernel
theorem d_mo_passes_137 : decode (q_cc m_mo_passes) 137 = .ok (.iaload, 1) := by decide +kernel
theorem d_mo_passes_138 : decode (q_cc m_mo_passes) 138 = .ok (.aload_n 0, 1) := by decide +kernel
theorem d_mo_passes_139 : decode (q_cc m_mo_passes) 139 = .ok (.getfield 118, 3) := by decide +kernel
theorem d_mo_passes_142 : decode (q_cc m_mo_passes) 142 = .ok (.bipush 120, 2) := by decide +kernel
theorem d_mo_passes_144 : decode (q_cc m_mo_passes) 144 = .ok (.iconst 5, 1) := by decide +kernel
theorem d_mo_passes_145 : decode (q_cc m_mo_passes) 145 = .ok (.iload_n 2, 1) := by decide +kernel
theorem d_mo_passes_146 : decode (q_cc m_mo_passes) 146 = .ok (.imul, 1) := by decide +kernel
theorem d_mo_passes_147 : decode (q_cc m_mo_passes) 147 = .ok (.iadd, 1) := by decide +kernel
theorem d_mo_passes_148 : decode (q_cc m_mo_passes) 148 = .ok (.iconst 3, 1) := by decide +kernel
theorem d_mo_passes_149 : decode (q_cc m_mo_passes) 149 = .ok (.iadd, 1) := by decide +kernel
theorem d_mo_passes_150 : decode (q_cc m_mo_passes) 150 = .ok (.iaload, 1) := by decide +kernel
theorem d_mo_passes_151 : decode (q_cc m_mo_passes) 151 = .ok (.imul, 1) := by decide +kernel
theorem d_mo_passes_152 : decode (q_cc m_mo_passes) 152 = .ok (.isub, 1) := by decide +kernel
theorem d_mo_passes_153 : decode (q_cc m_mo_passes) 153 = .ok (.imul, 1) := by decide +kernel
theorem d_mo_passes_154 : decode (q_cc m_mo_passes) 154 = .ok (.sipush 10000, 3) := by decide +kernel
theorem d_mo_passes_157 : decode (q_cc m_mo_passes) 157 = .ok (.idiv, 1) := by decide +kernel
theorem d_mo_passes_158 : decode (q_cc m_mo_passes) 158 = .ok (.istore_n 3, 1) := by decide +kernel
theorem d_mo_passes_159 : decode (q_cc m_mo_passes) 159 = .ok (.iinc 5 1, 3) := by decide +kernel
theorem d_mo_passes_162 : decode (q_cc m_mo_passes) 162 = .ok (.goto (-132), 3) := by decide +kernel
theorem d_mo_passes_165 : decode (q_cc m_mo_passes) 165 = .ok (.aload_n 0, 1) := by decide +kernel
theorem d_mo_passes_166 : decode (q_cc m_mo_passes) 166 = .ok (.getfield 142, 3) := by decide +kernel
theorem d_mo_passes_169 : decode (q_cc m_mo_passes) 169 = .ok (.bipush 24, 2) := by decide +kernel
theorem d_mo_passes_171 : decode (q_cc m_mo_passes) 171 = .ok (.iload_n 1, 1) := by decide +kernel
theorem d_mo_passes_172 : decode (q_cc m_mo_passes) 172 = .ok (.imul, 1) := by decide +kernel
theorem d_mo_passes_173 : decode (q_cc m_mo_passes) 173 = .ok (.iload_n 2, 1) := by decide +kernel
theorem d_mo_passes_174 : decode (q_cc m_mo_passes) 174 = .ok (.iadd, 1) := by decide +kernel
theorem d_mo_passes_175 : decode (q_cc m_mo_passes) 175 = .ok (.iload_n 3, 1) := by decide +kernel
theorem d_mo_passes_176 : decode (q_cc m_mo_passes) 176 = .ok (.iastore, 1) := by decide +kernel
theorem d_mo_passes_177 : decode (q_cc m_mo_passes) 177 = .ok (.aload_n 0, 1) := by decide +kernel
theorem d_mo_passes_178 : decode (q_cc m_mo_passes) 178 = .ok (.getfield 139, 3) := by decide +kernel
theorem d_mo_passes_181 : decode (q_cc m_mo_passes) 181 = .ok (.iconst 0, 1) := by decide +kernel
theorem d_mo_passes_182 : decode (q_cc m_mo_passes) 182 = .ok (.aload_n 0, 1) := by decide +kernel
theorem d_mo_passes_183 : decode (q_cc m_mo_passes) 183 = .ok (.getfield 112, 3) := by decide +kernel
theorem d_mo_passes_186 : decode (q_cc m_mo_passes) 186 = .ok (.iconst 5, 1) := by decide +kernel
theorem d_mo_passes_187 : decode (q_cc m_mo_passes) 187 = .ok (.iload_n 1, 1) := by decide +kernel
theorem d_mo_passes_188 : decode (q_cc m_mo_passes) 188 = .ok (.iadd, 1) := by decide +kernel
theorem d_mo_passes_189 : decode (q_cc m_mo_passes) 189 = .ok (.iaload, 1) := by decide +kernel
theorem d_mo_passes_190 : decode (q_cc m_mo_passes) 190 = .ok (.iastore, 1) := by decide +kernel
theorem d_mo_passes_191 : decode (q_cc m_mo_passes) 191 = .ok (.iconst 1, 1) := by decide +kernel
theorem d_mo_passes_192 : decode (q_cc m_mo_passes) 192 = .ok (.istore 5, 2) := by decide +kernel
theorem d_mo_passes_194 : decode (q_cc m_mo_passes) 194 = .ok (.iload 5, 2) := by decide +kernel
theorem d_mo_passes_196 : decode (q_cc m_mo_passes) 196 = .ok (.iconst 4, 1) := by decide +kernel
theorem d_mo_passes_197 : decode (q_cc m_mo_passes) 197 = .ok (.if_icmp .ge 32, 3) := by decide +kernel
theorem d_mo_passes_200 : decode (q_cc m_mo_passes) 200 = .ok (.aload_n 0, 1) := by decide +kernel
theorem d_mo_passes_201 : decode (q_cc m_mo_passes) 201 = .ok (.getfield 139, 3) := by decide +kernel
theorem d_mo_passes_204 : decode (q_cc m_mo_passes) 204 = .ok (.iload 5, 2) := by decide +kernel
theorem d_mo_passes_206 : decode (q_cc m_mo_passes) 206 = .ok (.aload_n 0, 1) := by decide +kernel
theorem d_mo_passes_207 : decode (q_cc m_mo_passes) 207 = .ok (.getfield 118, 3) := by decide +kernel
theorem d_mo_passes_210 : decode (q_cc m_mo_passes) 210 = .ok (.bipush 120, 2) := by decide +kernel
theorem d_mo_passes_212 : decode (q_cc m_mo_passes) 212 = .ok (.iconst 5, 1) := by decide +kernel
theorem d_mo_passes_213 : decode (q_cc m_mo_passes) 213 = .ok (.iload_n 2, 1) := by decide +kernel
theorem d_mo_passes_214 : decode (q_cc m_mo_passes) 214 = .ok (.imul, 1) := by decide +kernel
theorem d_mo_passes_215 : decode (q_cc m_mo_passes) 215 = .ok (.iadd, 1) := by decide +kernel
theorem d_mo_passes_216 : decode (q_cc m_mo_passes) 216 = .ok (.iconst 1, 1) := by decide +kernel
theorem d_mo_passes_217 : decode (q_cc m_mo_passes) 217 = .ok (.iadd, 1) := by decide +kernel
theorem d_mo_passes_218 : decode (q_cc m_mo_passes) 218 = .ok (.iload 5, 2) := by decide +kernel
theorem d_mo_passes_220 : decode (q_cc m_mo_passes) 220 = .ok (.iadd, 1) := by decide +kernel
theorem d_mo_passes_221 : decode (q_cc m_mo_passes) 221 = .ok (.iaload, 1) := by decide +kernel
theorem d_mo_passes_222 : decode (q_cc m_mo_passes) 222 = .ok (.iastore, 1) := by decide +kernel
theorem d_mo_passes_223 : decode (q_cc m_mo_passes) 223 = .ok (.iinc 5 1, 3) := by decide +kernel
theorem d_mo_passes_226 : decode (q_cc m_mo_passes) 226 = .ok (.goto (-32), 3) := by decide +kernel
theorem d_mo_passes_229 : decode (q_cc m_mo_passes) 229 = .ok (.aload_n 0, 1) := by decide +kernel
theorem d_mo_passes_230 : decode (q_cc m_mo_passes) 230 = .ok (.getfield 139, 3) := by decide +kernel
theorem d_mo_passes_233 : decode (q_cc m_mo_passes) 233 = .ok (.iconst 4, 1) := by decide +kernel
theorem d_mo_passes_234 : decode (q_cc m_mo_passes) 234 = .ok (.iload 4, 2) := by decide +kernel
theorem d_mo_passes_236 : decode (q_cc m_mo_passes) 236 = .ok (.iastore, 1) := by decide +kernel
theorem d_mo_passes_237 : decode (q_cc m_mo_passes) 237 = .ok (.aload_n 0, 1) := by decide +kernel
theorem d_mo_passes_238 : decode (q_cc m_mo_passes) 238 = .ok (.getfield 139, 3) := by decide +kernel
theorem d_mo_passes_241 : decode (q_cc m_mo_passes) 241 = .ok (.iconst 5, 1) := by decide +kernel
theorem d_mo_passes_242 : decode (q_cc m_mo_passes) 242 = .ok (.iload_n 3, 1) := by decide +kernel
theorem d_mo_passes_243 : decode (q_cc m_mo_passes) 243 = .ok (.iastore, 1) := by decide +kernel
theorem d_mo_passes_244 : decode (q_cc m_mo_passes) 244 = .ok (.aload_n 0, 1) := by decide +kernel
theorem d_mo_passes_245 : decode (q_cc m_mo_passes) 245 = .ok (.getfield 145, 3) := by decide +kernel
theorem d_mo_passes_248 : decode (q_cc m_mo_passes) 248 = .ok (.bipush 24, 2) := by decide +kernel
theorem d_mo_passes_250 : decode (q_cc m_mo_passes) 250 = .ok (.iload_n 1, 1) := by decide +kernel
theorem d_mo_passes_251 : decode (q_cc m_mo_passes) 251 = .ok (.imul, 1) := by decide +kernel
theorem d_mo_passes_252 : decode (q_cc m_mo_passes) 252 = .ok (.iload_n 2, 1) := by decide +kernel
theorem d_mo_passes_253 : decode (q_cc m_mo_passes) 253 = .ok (.iadd, 1) := by decide +kernel
theorem d_mo_passes_254 : decode (q_cc m_mo_passes) 254 = .ok (.aload_n 0, 1) := by decide +kernel
theorem d_mo_passes_255 : decode (q_cc m_mo_passes) 255 = .ok (.aload_n 0, 1) := by decide +kernel
theorem d_mo_passes_256 : decode (q_cc m_mo_passes) 256 = .ok (.getfield 112, 3) := by decide +kernel
theorem d_mo_passes_259 : decode (q_cc m_mo_passes) 259 = .ok (.iconst 5, 1) := by decide +kernel
theorem d_mo_passes_260 : decode (q_cc m_mo_passes) 260 = .ok (.iload_n 1, 1) := by decide +kernel
theorem d_mo_passes_261 : decode (q_cc m_mo_passes) 261 = .ok (.iadd, 1) := by decide +kernel
theorem d_mo_passes_262 : decode (q_cc m_mo_passes) 262 = .ok (.iaload, 1) := by decide +kernel
theorem d_mo_passes_263 : decode (q_cc m_mo_passes) 263 = .ok (.invokevirtual 428, 3) := by decide +kernel
theorem d_mo_passes_266 : decode (q_cc m_mo_passes) 266 = .ok (.iastore, 1) := by decide +kernel
theorem d_mo_passes_267 : decode (q_cc m_mo_passes) 267 = .ok (.iinc 2 1, 3) := by decide +kernel
theorem d_mo_passes_270 : decode (q_cc m_mo_passes) 270 = .ok (.goto (-258), 3) := by decide +kernel
theorem d_mo_passes_273 : decode (q_cc m_mo_passes) 273 = .ok (.iinc 1 1, 3) := by decide +kernel
theorem d_mo_passes_276 : decode (q_cc m_mo_passes) 276 = .ok (.goto (-274), 3) := by decide +kernel
theorem d_mo_passes_279 : decode (q_cc m_mo_passes) 279 = .ok (.return_, 1) := by decide +kernel
theorem d_mo_priceNow_0 : decode (q_cc m_mo_priceNow) 0 = .ok (.bipush 6, 2) := by decide +kernel
theorem d_mo_priceNow_2 : decode (q_cc m_mo_priceNow) 2 = .ok (.istore_n 2, 1) := by decide +kernel
theorem d_mo_priceNow_3 : decode (q_cc m_mo_priceNow) 3 = .ok (.iload_n 2, 1) := by decide +kernel
theorem d_mo_priceNow_4 : decode (q_cc m_mo_priceNow) 4 = .ok (.bipush 6, 2) := by decide +kernel
theorem d_mo_priceNow_6 : decode (q_cc m_mo_priceNow) 6 = .ok (.aload_n 0, 1) := by decide +kernel
theorem d_mo_priceNow_7 : decode (q_cc m_mo_priceNow) 7 = .ok (.getfield 93, 3) := by decide +kernel
theorem d_mo_priceNow_10 : decode (q_cc m_mo_priceNow) 10 = .ok (.bipush 13, 2) := by decide +kernel
theorem d_mo_priceNow_12 : decode (q_cc m_mo_priceNow) 12 = .ok (.iaload, 1) := by decide +kernel
theorem d_mo_priceNow_13 : decode (q_cc m_mo_priceNow) 13 = .ok (.iadd, 1) := by decide +kernel
theorem d_mo_priceNow_14 : decode (q_cc m_mo_priceNow) 14 = .ok (.if_icmp .ge 77, 3) := by decide +kernel
theorem d_mo_priceNow_17 : decode (q_cc m_mo_priceNow) 17 = .ok (.aload_n 0, 1) := by decide +kernel
theorem d_mo_priceNow_18 : decode (q_cc m_mo_priceNow) 18 = .ok (.aload_n 0, 1) := by decide +kernel
theorem d_mo_priceNow_19 : decode (q_cc m_mo_priceNow) 19 = .ok (.getfield 130, 3) := by decide +kernel
theorem d_mo_priceNow_22 : decode (q_cc m_mo_priceNow) 22 = .ok (.iload_n 2, 1) := by decide +kernel
theorem d_mo_priceNow_23 : decode (q_cc m_mo_priceNow) 23 = .ok (.iaload, 1) := by decide +kernel
theorem d_mo_priceNow_24 : decode (q_cc m_mo_priceNow) 24 = .ok (.aload_n 0, 1) := by decide +kernel
theorem d_mo_priceNow_25 : decode (q_cc m_mo_priceNow) 25 = .ok (.getfield 133, 3) := by decide +kernel
theorem d_mo_priceNow_28 : decode (q_cc m_mo_priceNow) 28 = .ok (.iload_n 2, 1) := by decide +kernel
theorem d_mo_priceNow_29 : decode (q_cc m_mo_priceNow) 29 = .ok (.iaload, 1) := by decide +kernel
theorem d_mo_priceNow_30 : decode (q_cc m_mo_priceNow) 30 = .ok (.invokevirtual 431, 3) := by decide +kernel
theorem d_mo_priceNow_33 : decode (q_cc m_mo_priceNow) 33 = .ok (.lconst 1, 1) := by decide +kernel
theorem d_mo_priceNow_34 : decode (q_cc m_mo_priceNow) 34 = .ok (.lcmp, 1) := by decide +kernel
theorem d_mo_priceNow_35 : decode (q_cc m_mo_priceNow) 35 = .ok (.ifCond .eq 6, 3) := by decide +kernel
theorem d_mo_priceNow_38 : decode (q_cc m_mo_priceNow) 38 = .ok (.goto 47, 3) := by decide +kernel
theorem d_mo_priceNow_41 : decode (q_cc m_mo_priceNow) 41 = .ok (.aload_n 0, 1) := by decide +kernel
theorem d_mo_priceNow_42 : decode (q_cc m_mo_priceNow) 42 = .ok (.aload_n 0, 1) := by decide +kernel
theorem d_mo_priceNow_43 : decode (q_cc m_mo_priceNow) 43 = .ok (.getfield 127, 3) := by decide +kernel
theorem d_mo_priceNow_46 : decode (q_cc m_mo_priceNow) 46 = .ok (.iload_n 2, 1) := by decide +kernel
theorem d_mo_priceNow_47 : decode (q_cc m_mo_priceNow) 47 = .ok (.iaload, 1) := by decide +kernel
theorem d_mo_priceNow_48 : decode (q_cc m_mo_priceNow) 48 = .ok (.aload_n 0, 1) := by decide +kernel
theorem d_mo_priceNow_49 : decode (q_cc m_mo_priceNow) 49 = .ok (.getfield 130, 3) := by decide +kernel
theorem d_mo_priceNow_52 : decode (q_cc m_mo_priceNow) 52 = .ok (.iload_n 2, 1) := by decide +kernel
theorem d_mo_priceNow_53 : decode (q_cc m_mo_priceNow) 53 = .ok (.iaload, 1) := by decide +kernel
theorem d_mo_priceNow_54 : decode (q_cc m_mo_priceNow) 54 = .ok (.invokevirtual 431, 3) := by decide +kernel
theorem d_mo_priceNow_57 : decode (q_cc m_mo_priceNow) 57 = .ok (.lstore_n 3, 1) := by decide +kernel
theorem d_mo_priceNow_58 : decode (q_cc m_mo_priceNow) 58 = .ok (.lload_n 3, 1) := by decide +kernel
theorem d_mo_priceNow_59 : decode (q_cc m_mo_priceNow) 59 = .ok (.lconst 0, 1) := by decide +kernel
theorem d_mo_priceNow_60 : decode (q_cc m_mo_priceNow) 60 = .ok (.lcmp, 1) := by decide +kernel
theorem d_mo_priceNow_61 : decode (q_cc m_mo_priceNow) 61 = .ok (.ifCond .ge 7, 3) := by decide +kernel
theorem d_mo_priceNow_64 : decode (q_cc m_mo_priceNow) 64 = .ok (.iconst 0, 1) := by decide +kernel
theorem d_mo_priceNow_65 : decode (q_cc m_mo_priceNow) 65 = .ok (.goto 19, 3) := by decide +kernel
theorem d_mo_priceNow_68 : decode (q_cc m_mo_priceNow) 68 = .ok (.lload_n 3, 1) := by decide +kernel
theorem d_mo_priceNow_69 : decode (q_cc m_mo_priceNow) 69 = .ok (.ldc2_w 435, 3) := by decide +kernel
theorem d_mo_priceNow_72 : decode (q_cc m_mo_priceNow) 72 = .ok (.lcmp, 1) := by decide +kernel
theorem d_mo_priceNow_73 : decode (q_cc m_mo_priceNow) 73 = .ok (.ifCond .le 9, 3) := by decide +kernel
theorem d_mo_priceNow_76 : decode (q_cc m_mo_priceNow) 76 = .ok (.sipush 999, 3) := by decide +kernel
theorem d_mo_priceNow_79 : decode (q_cc m_mo_priceNow) 79 = .ok (.goto 5, 3) := by decide +kernel
theorem d_mo_priceNow_82 : decode (q_cc m_mo_priceNow) 82 = .ok (.lload_n 3, 1) := by decide +kernel
theorem d_mo_priceNow_83 : decode (q_cc m_mo_priceNow) 83 = .ok (.l2i, 1) := by decide +kernel
theorem d_mo_priceNow_84 : decode (q_cc m_mo_priceNow) 84 = .ok (.ireturn, 1) := by decide +kernel
theorem d_mo_priceNow_85 : decode (q_cc m_mo_priceNow) 85 = .ok (.iinc 2 1, 3) := by decide +kernel
theorem d_mo_priceNow_88 : decode (q_cc m_mo_priceNow) 88 = .ok (.goto (-85), 3) := by decide +kernel
theorem d_mo_priceNow_91 : decode (q_cc m_mo_priceNow) 91 = .ok (.iload_n 1, 1) := by decide +kernel
theorem d_mo_priceNow_92 : decode (q_cc m_mo_priceNow) 92 = .ok (.ireturn, 1) := by decide +kernel
theorem d_mo_keepsHires_0 : decode (q_cc m_mo_keepsHires) 0 = .ok (.aload_n 0, 1) := by decide +kernel
theorem d_mo_keepsHires_1 : decode (q_cc m_mo_keepsHires) 1 = .ok (.aload_n 0, 1) := by decide +kernel
theorem d_mo_keepsHires_2 : decode (q_cc m_mo_keepsHires) 2 = .ok (.getfield 437, 3) := by decide +kernel
theorem d_mo_keepsHires_5 : decode (q_cc m_mo_keepsHires) 5 = .ok (.iconst 1, 1) := by decide +kernel
theorem d_mo_keepsHires_6 : decode (q_cc m_mo_keepsHires) 6 = .ok (.iadd, 1) := by decide +kernel
theorem d_mo_keepsHires_7 : decode (q_cc m_mo_keepsHires) 7 = .ok (.bipush 30, 2) := by decide +kernel
theorem d_mo_keepsHires_9 : decode (q_cc m_mo_keepsHires) 9 = .ok (.irem, 1) := by decide +kernel
theorem d_mo_keepsHires_10 : decode (q_cc m_mo_keepsHires) 10 = .ok (.putfield 437, 3) := by decide +kernel
theorem d_mo_keepsHires_13 : decode (q_cc m_mo_keepsHires) 13 = .ok (.iconst 0, 1) := by decide +kernel
theorem d_mo_keepsHires_14 : decode (q_cc m_mo_keepsHires) 14 = .ok (.istore_n 1, 1) := by decide +kernel
theorem d_mo_keepsHires_15 : decode (q_cc m_mo_keepsHires) 15 = .ok (.iload_n 1, 1) := by decide +kernel
theorem d_mo_keepsHires_16 : decode (q_cc m_mo_keepsHires) 16 = .ok (.bipush 24, 2) := by decide +kernel
theorem d_mo_keepsHires_18 : decode (q_cc m_mo_keepsHires) 18 = .ok (.if_icmp .ge 29, 3) := by decide +kernel
theorem d_mo_keepsHires_21 : decode (q_cc m_mo_keepsHires) 21 = .ok (.aload_n 0, 1) := by decide +kernel
theorem d_mo_keepsHires_22 : decode (q_cc m_mo_keepsHires) 22 = .ok (.getfield 154, 3) := by decide +kernel
theorem d_mo_keepsHires_25 : decode (q_cc m_mo_keepsHires) 25 = .ok (.bipush 24, 2) := by decide +kernel
theorem d_mo_keepsHires_27 : decode (q_cc m_mo_keepsHires) 27 = .ok (.aload_n 0, 1) := by decide +kernel
theorem d_mo_keepsHires_28 : decode (q_cc m_mo_keepsHires) 28 = .ok (.getfield 437, 3) := by decide +kernel
theorem d_mo_keepsHires_31 : decode (q_cc m_mo_keepsHires) 31 = .ok (.imul, 1) := by decide +kernel
theorem d_mo_keepsHires_32 : decode (q_cc m_mo_keepsHires) 32 = .ok (.iload_n 1, 1) := by decide +kernel
theorem d_mo_keepsHires_33 : decode (q_cc m_mo_keepsHires) 33 = .ok (.iadd, 1) := by decide +kernel
theorem d_mo_keepsHires_34 : decode (q_cc m_mo_keepsHires) 34 = .ok (.aload_n 0, 1) := by decide +kernel
theorem d_mo_keepsHires_35 : decode (q_cc m_mo_keepsHires) 35 = .ok (.getfield 148, 3) := by decide +kernel
theorem d_mo_keepsHires_38 : decode (q_cc m_mo_keepsHires) 38 = .ok (.iload_n 1, 1) := by decide +kernel
theorem d_mo_keepsHires_39 : decode (q_cc m_mo_keepsHires) 39 = .ok (.iaload, 1) := by decide +kernel
theorem d_mo_keepsHires_40 : decode (q_cc m_mo_keepsHires) 40 = .ok (.iastore, 1) := by decide +kernel
theorem d_mo_keepsHires_41 : decode (q_cc m_mo_keepsHires) 41 = .ok (.iinc 1 1, 3) := by decide +kernel
theorem d_mo_keepsHires_44 : decode (q_cc m_mo_keepsHires) 44 = .ok (.goto (-29), 3) := by decide +kernel
theorem d_mo_keepsHires_47 : decode (q_cc m_mo_keepsHires) 47 = .ok (.aload_n 0, 1) := by decide +kernel
theorem d_mo_keepsHires_48 : decode (q_cc m_mo_keepsHires) 48 = .ok (.getfield 341, 3) := by decide +kernel
theorem d_mo_keepsHires_51 : decode (q_cc m_mo_keepsHires) 51 = .ok (.bipush 30, 2) := by decide +kernel
theorem d_mo_keepsHires_53 : decode (q_cc m_mo_keepsHires) 53 = .ok (.if_icmp .ge 13, 3) := by decide +kernel
theorem d_mo_keepsHires_56 : decode (q_cc m_mo_keepsHires) 56 = .ok (.aload_n 0, 1) := by decide +kernel
theorem d_mo_keepsHires_57 : decode (q_cc m_mo_keepsHires) 57 = .ok (.dup, 1) := by decide +kernel
theorem d_mo_keepsHires_58 : decode (q_cc m_mo_keepsHires) 58 = .ok (.getfield 341, 3) := by decide +kernel
theorem d_mo_keepsHires_61 : decode (q_cc m_mo_keepsHires) 61 = .ok (.iconst 1, 1) := by decide +kernel
theorem d_mo_keepsHires_62 : decode (q_cc m_mo_keepsHires) 62 = .ok (.iadd, 1) := by decide +kernel
theorem d_mo_keepsHires_63 : decode (q_cc m_mo_keepsHires) 63 = .ok (.putfield 341, 3) := by decide +kernel
theorem d_mo_keepsHires_66 : decode (q_cc m_mo_keepsHires) 66 = .ok (.return_, 1) := by decide +kernel
theorem d_mo_hiredBy_0 : decode (q_cc m_mo_hiredBy) 0 = .ok (.iconst 0, 1) := by decide +kernel
theorem d_mo_hiredBy_1 : decode (q_cc m_mo_hiredBy) 1 = .ok (.istore_n 2, 1) := by decide +kernel
theorem d_mo_hiredBy_2 : decode (q_cc m_mo_hiredBy) 2 = .ok (.iconst 0, 1) := by decide +kernel
theorem d_mo_hiredBy_3 : decode (q_cc m_mo_hiredBy) 3 = .ok (.istore_n 3, 1) := by decide +kernel
theorem d_mo_hiredBy_4 : decode (q_cc m_mo_hiredBy) 4 = .ok (.iload_n 3, 1) := by decide +kernel
theorem d_mo_hiredBy_5 : decode (q_cc m_mo_hiredBy) 5 = .ok (.aload_n 0, 1) := by decide +kernel
theorem d_mo_hiredBy_6 : decode (q_cc m_mo_hiredBy) 6 = .ok (.invokevirtual 328, 3) := by decide +kernel
theorem d_mo_hiredBy_9 : decode (q_cc m_mo_hiredBy) 9 = .ok (.if_icmp .ge 25, 3) := by decide +kernel
theorem d_mo_hiredBy_12 : decode (q_cc m_mo_hiredBy) 12 = .ok (.aload_n 0, 1) := by decide +kernel
theorem d_mo_hiredBy_13 : decode (q_cc m_mo_hiredBy) 13 = .ok (.getfield 148, 3) := by decide +kernel
theorem d_mo_hiredBy_16 : decode (q_cc m_mo_hiredBy) 16 = .ok (.iload_n 3, 1) := by decide +kernel
theorem d_mo_hiredBy_17 : decode (q_cc m_mo_hiredBy) 17 = .ok (.iaload, 1) := by decide +kernel
theorem d_mo_hiredBy_18 : decode (q_cc m_mo_hiredBy) 18 = .ok (.iload_n 1, 1) := by decide +kernel
theorem d_mo_hiredBy_19 : decode (q_cc m_mo_hiredBy) 19 = .ok (.if_icmp .ne 9, 3) := by decide +kernel
theorem d_mo_hiredBy_22 : decode (q_cc m_mo_hiredBy) 22 = .ok (.iload_n 2, 1) := by decide +kernel
theorem d_mo_hiredBy_23 : decode (q_cc m_mo_hiredBy) 23 = .ok (.iconst 1, 1) := by decide +kernel
theorem d_mo_hiredBy_24 : decode (q_cc m_mo_hiredBy) 24 = .ok (.iload_n 3, 1) := by decide +kernel
theorem d_mo_hiredBy_25 : decode (q_cc m_mo_hiredBy) 25 = .ok (.ishl, 1) := by decide +kernel
theorem d_mo_hiredBy_26 : decode (q_cc m_mo_hiredBy) 26 = .ok (.ior, 1) := by decide +kernel
theorem d_mo_hiredBy_27 : decode (q_cc m_mo_hiredBy) 27 = .ok (.istore_n 2, 1) := by decide +kernel
theorem d_mo_hiredBy_28 : decode (q_cc m_mo_hiredBy) 28 = .ok (.iinc 3 1, 3) := by decide +kernel
theorem d_mo_hiredBy_31 : decode (q_cc m_mo_hiredBy) 31 = .ok (.goto (-27), 3) := by decide +kernel
theorem d_mo_hiredBy_34 : decode (q_cc m_mo_hiredBy) 34 = .ok (.iload_n 2, 1) := by decide +kernel
theorem d_mo_hiredBy_35 : decode (q_cc m_mo_hiredBy) 35 = .ok (.ireturn, 1) := by decide +kernel
theorem d_mo_ownOf_0 : decode (q_cc m_mo_ownOf) 0 = .ok (.iconst 0, 1) := by decide +kernel
theorem d_mo_ownOf_1 : decode (q_cc m_mo_ownOf) 1 = .ok (.istore_n 2, 1) := by decide +kernel
theorem d_mo_ownOf_2 : decode (q_cc m_mo_ownOf) 2 = .ok (.iconst 0, 1) := by decide +kernel
theorem d_mo_ownOf_3 : decode (q_cc m_mo_ownOf) 3 = .ok (.istore_n 3, 1) := by decide +kernel
theorem d_mo_ownOf_4 : decode (q_cc m_mo_ownOf) 4 = .ok (.iload_n 3, 1) := by decide +kernel
theorem d_mo_ownOf_5 : decode (q_cc m_mo_ownOf) 5 = .ok (.aload_n 0, 1) := by decide +kernel
theorem d_mo_ownOf_6 : decode (q_cc m_mo_ownOf) 6 = .ok (.invokevirtual 328, 3) := by decide +kernel
theorem d_mo_ownOf_9 : decode (q_cc m_mo_ownOf) 9 = .ok (.if_icmp .ge 34, 3) := by decide +kernel
theorem d_mo_ownOf_12 : decode (q_cc m_mo_ownOf) 12 = .ok (.aload_n 0, 1) := by decide +kernel
theorem d_mo_ownOf_13 : decode (q_cc m_mo_ownOf) 13 = .ok (.getfield 148, 3) := by decide +kernel
theorem d_mo_ownOf_16 : decode (q_cc m_mo_ownOf) 16 = .ok (.iload_n 3, 1) := by decide +kernel
theorem d_mo_ownOf_17 : decode (q_cc m_mo_ownOf) 17 = .ok (.iaload, 1) := by decide +kernel
theorem d_mo_ownOf_18 : decode (q_cc m_mo_ownOf) 18 = .ok (.iconst (-1), 1) := by decide +kernel
theorem d_mo_ownOf_19 : decode (q_cc m_mo_ownOf) 19 = .ok (.if_icmp .ne 18, 3) := by decide +kernel
theorem d_mo_ownOf_22 : decode (q_cc m_mo_ownOf) 22 = .ok (.aload_n 0, 1) := by decide +kernel
theorem d_mo_ownOf_23 : decode (q_cc m_mo_ownOf) 23 = .ok (.iload_n 3, 1) := by decide +kernel
theorem d_mo_ownOf_24 : decode (q_cc m_mo_ownOf) 24 = .ok (.invokevirtual 425, 3) := by decide +kernel
theorem d_mo_ownOf_27 : decode (q_cc m_mo_ownOf) 27 = .ok (.iload_n 1, 1) := by decide +kernel
theorem d_mo_ownOf_28 : decode (q_cc m_mo_ownOf) 28 = .ok (.if_icmp .ne 9, 3) := by decide +kernel
theorem d_mo_ownOf_31 : decode (q_cc m_mo_ownOf) 31 = .ok (.iload_n 2, 1) := by decide +kernel
theorem d_mo_ownOf_32 : decode (q_cc m_mo_ownOf) 32 = .ok (.iconst 1, 1) := by decide +kernel
theorem d_mo_ownOf_33 : decode (q_cc m_mo_ownOf) 33 = .ok (.iload_n 3, 1) := by decide +kernel
theorem d_mo_ownOf_34 : decode (q_cc m_mo_ownOf) 34 = .ok (.ishl, 1) := by decide +kernel
theorem d_mo_ownOf_35 : decode (q_cc m_mo_ownOf) 35 = .ok (.ior, 1) := by decide +kernel
theorem d_mo_ownOf_36 : decode (q_cc m_mo_ownOf) 36 = .ok (.istore_n 2, 1) := by decide +kernel
theorem d_mo_ownOf_37 : decode (q_cc m_mo_ownOf) 37 = .ok (.iinc 3 1, 3) := by decide +kernel
theorem d_mo_ownOf_40 : decode (q_cc m_mo_ownOf) 40 = .ok (.goto (-36), 3) := by decide +kernel
theorem d_mo_ownOf_43 : decode (q_cc m_mo_ownOf) 43 = .ok (.iload_n 2, 1) := by decide +kernel
theorem d_mo_ownOf_44 : decode (q_cc m_mo_ownOf) 44 = .ok (.ireturn, 1) := by decide +kernel
theorem d_mo_canBeAll_0 : decode (q_cc m_mo_canBeAll) 0 = .ok (.iconst 0, 1) := by decide +kernel
theorem d_mo_canBeAll_1 : decode (q_cc m_mo_canBeAll) 1 = .ok (.istore_n 2, 1) := by decide +kernel
theorem d_mo_canBeAll_2 : decode (q_cc m_mo_canBeAll) 2 = .ok (.iload_n 2, 1) := by decide +kernel
theorem d_mo_canBeAll_3 : decode (q_cc m_mo_canBeAll) 3 = .ok (.aload_n 0, 1) := by decide +kernel
theorem d_mo_canBeAll_4 : decode (q_cc m_mo_canBeAll) 4 = .ok (.invokevirtual 328, 3) := by decide +kernel
theorem d_mo_canBeAll_7 : decode (q_cc m_mo_canBeAll) 7 = .ok (.if_icmp .ge 33, 3) := by decide +kernel
theorem d_mo_canBeAll_10 : decode (q_cc m_mo_canBeAll) 10 = .ok (.iload_n 1, 1) := by decide +kernel
theorem d_mo_canBeAll_11 : decode (q_cc m_mo_canBeAll) 11 = .ok (.iload_n 2, 1) := by decide +kernel
theorem d_mo_canBeAll_12 : decode (q_cc m_mo_canBeAll) 12 = .ok (.ishr, 1) := by decide +kernel
theorem d_mo_canBeAll_13 : decode (q_cc m_mo_canBeAll) 13 = .ok (.iconst 1, 1) := by decide +kernel
theorem d_mo_canBeAll_14 : decode (q_cc m_mo_canBeAll) 14 = .ok (.iand, 1) := by decide +kernel
theorem d_mo_canBeAll_15 : decode (q_cc m_mo_canBeAll) 15 = .ok (.iconst 1, 1) := by decide +kernel
theorem d_mo_canBeAll_16 : decode (q_cc m_mo_canBeAll) 16 = .ok (.if_icmp .ne 18, 3) := by decide +kernel
theorem d_mo_canBeAll_19 : decode (q_cc m_mo_canBeAll) 19 = .ok (.iload_n 1, 1) := by decide +kernel
theorem d_mo_canBeAll_20 : decode (q_cc m_mo_canBeAll) 20 = .ok (.aload_n 0, 1) := by decide +kernel
theorem d_mo_canBeAll_21 : decode (q_cc m_mo_canBeAll) 21 = .ok (.getfield 151, 3) := by decide +kernel
theorem d_mo_canBeAll_24 : decode (q_cc m_mo_canBeAll) 24 = .ok (.iload_n 2, 1) := by decide +kernel
theorem d_mo_canBeAll_25 : decode (q_cc m_mo_canBeAll) 25 = .ok (.iaload, 1) := by decide +kernel
theorem d_mo_canBeAll_26 : decode (q_cc m_mo_canBeAll) 26 = .ok (.iconst (-1), 1) := by decide +kernel
theorem d_mo_canBeAll_27 : decode (q_cc m_mo_canBeAll) 27 = .ok (.ixor, 1) := by decide +kernel
theorem d_mo_canBeAll_28 : decode (q_cc m_mo_canBeAll) 28 = .ok (.iand, 1) := by decide +kernel
theorem d_mo_canBeAll_29 : decode (q_cc m_mo_canBeAll) 29 = .ok (.ifCond .eq 5, 3) := by decide +kernel
theorem d_mo_canBeAll_32 : decode (q_cc m_mo_canBeAll) 32 = .ok (.iconst 0, 1) := by decide +kernel
theorem d_mo_canBeAll_33 : decode (q_cc m_mo_canBeAll) 33 = .ok (.ireturn, 1) := by decide +kernel
theorem d_mo_canBeAll_34 : decode (q_cc m_mo_canBeAll) 34 = .ok (.iinc 2 1, 3) := by decide +kernel
theorem d_mo_canBeAll_37 : decode (q_cc m_mo_canBeAll) 37 = .ok (.goto (-35), 3) := by decide +kernel
theorem d_mo_canBeAll_40 : decode (q_cc m_mo_canBeAll) 40 = .ok (.iconst 1, 1) := by decide +kernel
theorem d_mo_canBeAll_41 : decode (q_cc m_mo_canBeAll) 41 = .ok (.ireturn, 1) := by decide +kernel
theorem d_mo_bits_0 : decode (q_cc m_mo_bits) 0 = .ok (.iconst 0, 1) := by decide +kernel
theorem d_mo_bits_1 : decode (q_cc m_mo_bits) 1 = .ok (.istore_n 1, 1) := by decide +kernel
theorem d_mo_bits_2 : decode (q_cc m_mo_bits) 2 = .ok (.iload_n 0, 1) := by decide +kernel
theorem d_mo_bits_3 : decode (q_cc m_mo_bits) 3 = .ok (.istore_n 2, 1) := by decide +kernel
theorem d_mo_bits_4 : decode (q_cc m_mo_bits) 4 = .ok (.iload_n 2, 1) := by decide +kernel
theorem d_mo_bits_5 : decode (q_cc m_mo_bits) 5 = .ok (.ifCond .eq 15, 3) := by decide +kernel
theorem d_mo_bits_8 : decode (q_cc m_mo_bits) 8 = .ok (.iinc 1 1, 3) := by decide +kernel
theorem d_mo_bits_11 : decode (q_cc m_mo_bits) 11 = .ok (.iload_n 2, 1) := by decide +kernel
theorem d_mo_bits_12 : decode (q_cc m_mo_bits) 12 = .ok (.iload_n 2, 1) := by decide +kernel
theorem d_mo_bits_13 : decode (q_cc m_mo_bits) 13 = .ok (.iconst 1, 1) := by decide +kernel
theorem d_mo_bits_14 : decode (q_cc m_mo_bits) 14 = .ok (.isub, 1) := by decide +kernel
theorem d_mo_bits_15 : decode (q_cc m_mo_bits) 15 = .ok (.iand, 1) := by decide +kernel
theorem d_mo_bits_16 : decode (q_cc m_mo_bits) 16 = .ok (.istore_n 2, 1) := by decide +kernel
theorem d_mo_bits_17 : decode (q_cc m_mo_bits) 17 = .ok (.goto (-13), 3) := by decide +kernel
theorem d_mo_bits_20 : decode (q_cc m_mo_bits) 20 = .ok (.iload_n 1, 1) := by decide +kernel
theorem d_mo_bits_21 : decode (q_cc m_mo_bits) 21 = .ok (.ireturn, 1) := by decide +kernel
theorem d_mo_has_0 : decode (q_cc m_mo_has) 0 = .ok (.iload_n 1, 1) := by decide +kernel
theorem d_mo_has_1 : decode (q_cc m_mo_has) 1 = .ok (.tableswitch 114 0 8 #[51, 59, 64, 69, 77, 82, 90, 95, 109], 51) := by decide +kernel
theorem d_mo_has_52 : decode (q_cc m_mo_has) 52 = .ok (.aload_n 0, 1) := by decide +kernel
theorem d_mo_has_53 : decode (q_cc m_mo_has) 53 = .ok (.getfield 93, 3) := by decide +kernel
theorem d_mo_has_56 : decode (q_cc m_mo_has) 56 = .ok (.bipush 7, 2) := by decide +kernel
theorem d_mo_has_58 : decode (q_cc m_mo_has) 58 = .ok (.iaload, 1) := by decide +kernel
theorem d_mo_has_59 : decode (q_cc m_mo_has) 59 = .ok (.ireturn, 1) := by decide +kernel
theorem d_mo_has_60 : decode (q_cc m_mo_has) 60 = .ok (.aload_n 0, 1) := by decide +kernel
theorem d_mo_has_61 : decode (q_cc m_mo_has) 61 = .ok (.invokevirtual 422, 3) := by decide +kernel
theorem d_mo_has_64 : decode (q_cc m_mo_has) 64 = .ok (.ireturn, 1) := by decide +kernel
theorem d_mo_has_65 : decode (q_cc m_mo_has) 65 = .ok (.aload_n 0, 1) := by decide +kernel
theorem d_mo_has_66 : decode (q_cc m_mo_has) 66 = .ok (.invokevirtual 419, 3) := by decide +kernel
theorem d_mo_has_69 : decode (q_cc m_mo_has) 69 = .ok (.ireturn, 1) := by decide +kernel
theorem d_mo_has_70 : decode (q_cc m_mo_has) 70 = .ok (.aload_n 0, 1) := by decide +kernel
theorem d_mo_has_71 : decode (q_cc m_mo_has) 71 = .ok (.getfield 93, 3) := by decide +kernel
theorem d_mo_has_74 : decode (q_cc m_mo_has) 74 = .ok (.bipush 10, 2) := by decide +kernel
theorem d_mo_has_76 : decode (q_cc m_mo_has) 76 = .ok (.iaload, 1) := by decide +kernel
theorem d_mo_has_77 : decode (q_cc m_mo_has) 77 = .ok (.ireturn, 1) := by decide +kernel
theorem d_mo_has_78 : decode (q_cc m_mo_has) 78 = .ok (.aload_n 0, 1) := by decide +kernel
theorem d_mo_has_79 : decode (q_cc m_mo_has) 79 = .ok (.invokevirtual 328, 3) := by decide +kernel
theorem d_mo_has_82 : decode (q_cc m_mo_has) 82 = .ok (.ireturn, 1) := by decide +kernel
theorem d_mo_has_83 : decode (q_cc m_mo_has) 83 = .ok (.aload_n 0, 1) := by decide +kernel
theorem d_mo_has_84 : decode (q_cc m_mo_has) 84 = .ok (.getfield 93, 3) := by decide +kernel
theorem d_mo_has_87 : decode (q_cc m_mo_has) 87 = .ok (.bipush 13, 2) := by decide +kernel
theorem d_mo_has_89 : decode (q_cc m_mo_has) 89 = .ok (.iaload, 1) := by decide +kernel
theorem d_mo_has_90 : decode (q_cc m_mo_has) 90 = .ok (.ireturn, 1) := by decide +kernel
theorem d_mo_has_91 : decode (q_cc m_mo_has) 91 = .ok (.aload_n 0, 1) := by decide +kernel
theorem d_mo_has_92 : decode (q_cc m_mo_has) 92 = .ok (.getfield 325, 3) := by decide +kernel
theorem d_mo_has_95 : decode (q_cc m_mo_has) 95 = .ok (.ireturn, 1) := by decide +kernel
theorem d_mo_has_96 : decode (q_cc m_mo_has) 96 = .ok (.aload_n 0, 1) := by decide +kernel
theorem d_mo_has_97 : decode (q_cc m_mo_has) 97 = .ok (.invokevirtual 328, 3) := by decide +kernel
theorem d_mo_has_100 : decode (q_cc m_mo_has) 100 = .ok (.aload_n 0, 1) := by decide +kernel
theorem d_mo_has_101 : decode (q_cc m_mo_has) 101 = .ok (.iconst (-1), 1) := by decide +kernel
theorem d_mo_has_102 : decode (q_cc m_mo_has) 102 = .ok (.invokevirtual 440, 3) := by decide +kernel
theorem d_mo_has_105 : decode (q_cc m_mo_has) 105 = .ok (.invokestatic 443, 3) := by decide +kernel
theorem d_mo_has_108 : decode (q_cc m_mo_has) 108 = .ok (.isub, 1) := by decide +kernel
theorem d_mo_has_109 : decode (q_cc m_mo_has) 109 = .ok (.ireturn, 1) := by decide +kernel
theorem d_mo_has_110 : decode (q_cc m_mo_has) 110 = .ok (.aload_n 0, 1) := by decide +kernel
theorem d_mo_has_111 : decode (q_cc m_mo_has) 111 = .ok (.getfield 341, 3) := by decide +kernel
theorem d_mo_has_114 : decode (q_cc m_mo_has) 114 = .ok (.ireturn, 1) := by decide +kernel
theorem d_mo_has_115 : decode (q_cc m_mo_has) 115 = .ok (.iconst (-1), 1) := by decide +kernel
theorem d_mo_has_116 : decode (q_cc m_mo_has) 116 = .ok (.ireturn, 1) := by decide +kernel
theorem d_mo_letter_0 : decode (q_cc m_mo_letter) 0 = .ok (.iload_n 1, 1) := by decide +kernel
theorem d_mo_letter_1 : decode (q_cc m_mo_letter) 1 = .ok (.i2l, 1) := by decide +kernel
theorem d_mo_letter_2 : decode (q_cc m_mo_letter) 2 = .ok (.lconst 0, 1) := by decide +kernel
theorem d_mo_letter_3 : decode (q_cc m_mo_letter) 3 = .ok (.ldc2_w 446, 3) := by decide +kernel
theorem d_mo_letter_6 : decode (q_cc m_mo_letter) 6 = .ok (.invokestatic 225, 3) := by decide +kernel
theorem d_mo_letter_9 : decode (q_cc m_mo_letter) 9 = .ok (.ifCond .eq 36, 3) := by decide +kernel
theorem d_mo_letter_12 : decode (q_cc m_mo_letter) 12 = .ok (.iload_n 2, 1) := by decide +kernel
theorem d_mo_letter_13 : decode (q_cc m_mo_letter) 13 = .ok (.i2l, 1) := by decide +kernel
theorem d_mo_letter_14 : decode (q_cc m_mo_letter) 14 = .ok (.lconst 0, 1) := by decide +kernel
theorem d_mo_letter_15 : decode (q_cc m_mo_letter) 15 = .ok (.aload_n 0, 1) := by decide +kernel
theorem d_mo_letter_16 : decode (q_cc m_mo_letter) 16 = .ok (.getfield 93, 3) := by decide +kernel
theorem d_mo_letter_19 : decode (q_cc m_mo_letter) 19 = .ok (.bipush 7, 2) := by decide +kernel
theorem d_mo_letter_21 : decode (q_cc m_mo_letter) 21 = .ok (.iload_n 1, 1) := by decide +kernel
theorem d_mo_letter_22 : decode (q_cc m_mo_letter) 22 = .ok (.iadd, 1) := by decide +kernel
theorem d_mo_letter_23 : decode (q_cc m_mo_letter) 23 = .ok (.iaload, 1) := by decide +kernel
theorem d_mo_letter_24 : decode (q_cc m_mo_letter) 24 = .ok (.iconst 1, 1) := by decide +kernel
theorem d_mo_letter_25 : decode (q_cc m_mo_letter) 25 = .ok (.isub, 1) := by decide +kernel
theorem d_mo_letter_26 : decode (q_cc m_mo_letter) 26 = .ok (.i2l, 1) := by decide +kernel
theorem d_mo_letter_27 : decode (q_cc m_mo_letter) 27 = .ok (.invokestatic 225, 3) := by decide +kernel
theorem d_mo_letter_30 : decode (q_cc m_mo_letter) 30 = .ok (.ifCond .eq 15, 3) := by decide +kernel
theorem d_mo_letter_33 : decode (q_cc m_mo_letter) 33 = .ok (.iload_n 3, 1) := by decide +kernel
theorem d_mo_letter_34 : decode (q_cc m_mo_letter) 34 = .ok (.i2l, 1) := by decide +kernel
theorem d_mo_letter_35 : decode (q_cc m_mo_letter) 35 = .ok (.lconst 0, 1) := by decide +kernel
theorem d_mo_letter_36 : decode (q_cc m_mo_letter) 36 = .ok (.ldc2_w 448, 3) := by decide +kernel
theorem d_mo_letter_39 : decode (q_cc m_mo_letter) 39 = .ok (.invokestatic 225, 3) := by decide +kernel
theorem d_mo_letter_42 : decode (q_cc m_mo_letter) 42 = .ok (.ifCond .ne 5, 3) := by decide +kernel
theorem d_mo_letter_45 : decode (q_cc m_mo_letter) 45 = .ok (.iconst (-1), 1) := by decide +kernel
theorem d_mo_letter_46 : decode (q_cc m_mo_letter) 46 = .ok (.ireturn, 1) := by decide +kernel
theorem d_mo_letter_47 : decode (q_cc m_mo_letter) 47 = .ok (.aload_n 0, 1) := by decide +kernel
theorem d_mo_letter_48 : decode (q_cc m_mo_letter) 48 = .ok (.getfield 96, 3) := by decide +kernel
theorem d_mo_letter_51 : decode (q_cc m_mo_letter) 51 = .ok (.bipush 32, 2) := by decide +kernel
theorem d_mo_letter_53 : decode (q_cc m_mo_letter) 53 = .ok (.bipush 8, 2) := by decide +kernel
theorem d_mo_letter_55 : decode (q_cc m_mo_letter) 55 = .ok (.iload_n 1, 1) := by decide +kernel
theorem d_mo_letter_56 : decode (q_cc m_mo_letter) 56 = .ok (.imul, 1) := by decide +kernel
theorem d_mo_letter_57 : decode (q_cc m_mo_letter) 57 = .ok (.iadd, 1) := by decide +kernel
theorem d_mo_letter_58 : decode (q_cc m_mo_letter) 58 = .ok (.iload_n 2, 1) := by decide +kernel
theorem d_mo_letter_59 : decode (q_cc m_mo_letter) 59 = .ok (.iadd, 1) := by decide +kernel
theorem d_mo_letter_60 : decode (q_cc m_mo_letter) 60 = .ok (.laload, 1) := by decide +kernel
theorem d_mo_letter_61 : decode (q_cc m_mo_letter) 61 = .ok (.lstore 4, 2) := by decide +kernel
theorem d_mo_letter_63 : decode (q_cc m_mo_letter) 63 = .ok (.iconst 0, 1) := by decide +kernel
theorem d_mo_letter_64 : decode (q_cc m_mo_letter) 64 = .ok (.istore 6, 2) := by decide +kernel
theorem d_mo_letter_66 : decode (q_cc m_mo_letter) 66 = .ok (.lload 4, 2) := by decide +kernel
theorem d_mo_letter_68 : decode (q_cc m_mo_letter) 68 = .ok (.lstore 7, 2) := by decide +kernel
theorem d_mo_letter_70 : decode (q_cc m_mo_letter) 70 = .ok (.lload 7, 2) := by decide +kernel
theorem d_mo_letter_72 : decode (q_cc m_mo_letter) 72 = .ok (.lconst 0, 1) := by decide +kernel
theorem d_mo_letter_73 : decode (q_cc m_mo_letter) 73 = .ok (.lcmp, 1) := by decide +kernel
theorem d_mo_letter_74 : decode (q_cc m_mo_letter) 74 = .ok (.ifCond .le 17, 3) := by decide +kernel
theorem d_mo_letter_77 : decode (q_cc m_mo_letter) 77 = .ok (.iinc 6 1, 3) := by decide +kernel
theorem d_mo_letter_80 : decode (q_cc m_mo_letter) 80 = .ok (.lload 7, 2) := by decide +kernel
theorem d_mo_letter_82 : decode (q_cc m_mo_letter) 82 = .ok (.ldc2_w 236, 3) := by decide +kernel
theorem d_mo_letter_85 : decode (q_cc m_mo_letter) 85 = .ok (.ldiv, 1) := by decide +kernel
theorem d_mo_letter_86 : decode (q_cc m_mo_letter) 86 = .ok (.lstore 7, 2) := by decide +kernel
theorem d_mo_letter_88 : decode (q_cc m_mo_letter) 88 = .ok (.goto (-18), 3) := by decide +kernel
theorem d_mo_letter_91 : decode (q_cc m_mo_letter) 91 = .ok (.iload_n 3, 1) := by decide +kernel
theorem d_mo_letter_92 : decode (q_cc m_mo_letter) 92 = .ok (.iload 6, 2) := by decide +kernel
theorem d_mo_letter_94 : decode (q_cc m_mo_letter) 94 = .ok (.if_icmp .lt 5, 3) := by decide +kernel
theorem d_mo_letter_97 : decode (q_cc m_mo_letter) 97 = .ok (.iconst 0, 1) := by decide +kernel
theorem d_mo_letter_98 : decode (q_cc m_mo_letter) 98 = .ok (.ireturn, 1) := by decide +kernel
theorem d_mo_letter_99 : decode (q_cc m_mo_letter) 99 = .ok (.iload 6, 2) := by decide +kernel
theorem d_mo_letter_101 : decode (q_cc m_mo_letter) 101 = .ok (.iconst 1, 1) := by decide +kernel
theorem d_mo_letter_102 : decode (q_cc m_mo_letter) 102 = .ok (.isub, 1) := by decide +kernel
theorem d_mo_letter_103 : decode (q_cc m_mo_letter) 103 = .ok (.istore 7, 2) := by decide +kernel
theorem d_mo_letter_105 : decode (q_cc m_mo_letter) 105 = .ok (.iload 7, 2) := by decide +kernel
theorem d_mo_letter_107 : decode (q_cc m_mo_letter) 107 = .ok (.iload_n 3, 1) := by decide +kernel
theorem d_mo_letter_108 : decode (q_cc m_mo_letter) 108 = .ok (.if_icmp .le 17, 3) := by decide +kernel
theorem d_mo_letter_111 : decode (q_cc m_mo_letter) 111 = .ok (.lload 4, 2) := by decide +kernel
theorem d_mo_letter_113 : decode (q_cc m_mo_letter) 113 = .ok (.ldc2_w 236, 3) := by decide +kernel
theorem d_mo_letter_116 : decode (q_cc m_mo_letter) 116 = .ok (.ldiv, 1) := by decide +kernel
theorem d_mo_letter_117 : decode (q_cc m_mo_letter) 117 = .ok (.lstore 4, 2) := by decide +kernel
theorem d_mo_letter_119 : decode (q_cc m_mo_letter) 119 = .ok (.iinc 7 (-1), 3) := by decide +kernel
theorem d_mo_letter_122 : decode (q_cc m_mo_letter) 122 = .ok (.goto (-17), 3) := by decide +kernel
theorem d_mo_letter_125 : decode (q_cc m_mo_letter) 125 = .ok (.lload 4, 2) := by decide +kernel
theorem d_mo_letter_127 : decode (q_cc m_mo_letter) 127 = .ok (.ldc2_w 236, 3) := by decide +kernel
theorem d_mo_letter_130 : decode (q_cc m_mo_letter) 130 = .ok (.lrem, 1) := by decide +kernel
theorem d_mo_letter_131 : decode (q_cc m_mo_letter) 131 = .ok (.l2i, 1) := by decide +kernel
theorem d_mo_letter_132 : decode (q_cc m_mo_letter) 132 = .ok (.ireturn, 1) := by decide +kernel
theorem d_mo_trait_0 : decode (q_cc m_mo_trait) 0 = .ok (.iload_n 1, 1) := by decide +kernel
theorem d_mo_trait_1 : decode (q_cc m_mo_trait) 1 = .ok (.i2l, 1) := by decide +kernel
theorem d_mo_trait_2 : decode (q_cc m_mo_trait) 2 = .ok (.lconst 0, 1) := by decide +kernel
theorem d_mo_trait_3 : decode (q_cc m_mo_trait) 3 = .ok (.aload_n 0, 1) := by decide +kernel
theorem d_mo_trait_4 : decode (q_cc m_mo_trait) 4 = .ok (.getfield 93, 3) := by decide +kernel
theorem d_mo_trait_7 : decode (q_cc m_mo_trait) 7 = .ok (.bipush 7, 2) := by decide +kernel
theorem d_mo_trait_9 : decode (q_cc m_mo_trait) 9 = .ok (.iaload, 1) := by decide +kernel
theorem d_mo_trait_10 : decode (q_cc m_mo_trait) 10 = .ok (.iconst 1, 1) := by decide +kernel
theorem d_mo_trait_11 : decode (q_cc m_mo_trait) 11 = .ok (.isub, 1) := by decide +kernel
theorem d_mo_trait_12 : decode (q_cc m_mo_trait) 12 = .ok (.i2l, 1) := by decide +kernel
theorem d_mo_trait_13 : decode (q_cc m_mo_trait) 13 = .ok (.invokestatic 225, 3) := by decide +kernel
theorem d_mo_trait_16 : decode (q_cc m_mo_trait) 16 = .ok (.ifCond .ne 5, 3) := by decide +kernel
theorem d_mo_trait_19 : decode (q_cc m_mo_trait) 19 = .ok (.iconst (-1), 1) := by decide +kernel
