theorem dX12_runs_127 : decode cX12_runs 127 = .ok (.iadd, 1) := by decide +kernel
theorem dX12_runs_128 : decode cX12_runs 128 = .ok (.dup2, 1) := by decide +kernel
theorem dX12_runs_129 : decode cX12_runs 129 = .ok (.laload, 1) := by decide +kernel
theorem dX12_runs_130 : decode cX12_runs 130 = .ok (.aload_n 0, 1) := by decide +kernel
theorem dX12_runs_131 : decode cX12_runs 131 = .ok (.getfield 16, 3) := by decide +kernel
theorem dX12_runs_134 : decode cX12_runs 134 = .ok (.iload 4, 2) := by decide +kernel
theorem dX12_runs_136 : decode cX12_runs 136 = .ok (.bipush 7, 2) := by decide +kernel
theorem dX12_runs_138 : decode cX12_runs 138 = .ok (.iadd, 1) := by decide +kernel
theorem dX12_runs_139 : decode cX12_runs 139 = .ok (.laload, 1) := by decide +kernel
theorem dX12_runs_140 : decode cX12_runs 140 = .ok (.ldc2_w 272, 3) := by decide +kernel
theorem dX12_runs_143 : decode cX12_runs 143 = .ok (.lcmp, 1) := by decide +kernel
theorem dX12_runs_144 : decode cX12_runs 144 = .ok (.ifCond .ge 7, 3) := by decide +kernel
theorem dX12_runs_147 : decode cX12_runs 147 = .ok (.lconst 1, 1) := by decide +kernel
theorem dX12_runs_148 : decode cX12_runs 148 = .ok (.goto 4, 3) := by decide +kernel
theorem dX12_runs_151 : decode cX12_runs 151 = .ok (.lconst 0, 1) := by decide +kernel
theorem dX12_runs_152 : decode cX12_runs 152 = .ok (.ladd, 1) := by decide +kernel
theorem dX12_runs_153 : decode cX12_runs 153 = .ok (.lastore, 1) := by decide +kernel
theorem dX12_runs_154 : decode cX12_runs 154 = .ok (.aload_n 0, 1) := by decide +kernel
theorem dX12_runs_155 : decode cX12_runs 155 = .ok (.getfield 16, 3) := by decide +kernel
theorem dX12_runs_158 : decode cX12_runs 158 = .ok (.iload 4, 2) := by decide +kernel
theorem dX12_runs_160 : decode cX12_runs 160 = .ok (.bipush 8, 2) := by decide +kernel
theorem dX12_runs_162 : decode cX12_runs 162 = .ok (.iadd, 1) := by decide +kernel
theorem dX12_runs_163 : decode cX12_runs 163 = .ok (.aload_n 0, 1) := by decide +kernel
theorem dX12_runs_164 : decode cX12_runs 164 = .ok (.getfield 16, 3) := by decide +kernel
theorem dX12_runs_167 : decode cX12_runs 167 = .ok (.iload 4, 2) := by decide +kernel
theorem dX12_runs_169 : decode cX12_runs 169 = .ok (.bipush 7, 2) := by decide +kernel
theorem dX12_runs_171 : decode cX12_runs 171 = .ok (.iadd, 1) := by decide +kernel
theorem dX12_runs_172 : decode cX12_runs 172 = .ok (.laload, 1) := by decide +kernel
theorem dX12_runs_173 : decode cX12_runs 173 = .ok (.aload_n 0, 1) := by decide +kernel
theorem dX12_runs_174 : decode cX12_runs 174 = .ok (.getfield 16, 3) := by decide +kernel
theorem dX12_runs_177 : decode cX12_runs 177 = .ok (.iload 4, 2) := by decide +kernel
theorem dX12_runs_179 : decode cX12_runs 179 = .ok (.bipush 8, 2) := by decide +kernel
theorem dX12_runs_181 : decode cX12_runs 181 = .ok (.iadd, 1) := by decide +kernel
theorem dX12_runs_182 : decode cX12_runs 182 = .ok (.laload, 1) := by decide +kernel
theorem dX12_runs_183 : decode cX12_runs 183 = .ok (.lcmp, 1) := by decide +kernel
theorem dX12_runs_184 : decode cX12_runs 184 = .ok (.ifCond .le 16, 3) := by decide +kernel
theorem dX12_runs_187 : decode cX12_runs 187 = .ok (.aload_n 0, 1) := by decide +kernel
theorem dX12_runs_188 : decode cX12_runs 188 = .ok (.getfield 16, 3) := by decide +kernel
theorem dX12_runs_191 : decode cX12_runs 191 = .ok (.iload 4, 2) := by decide +kernel
theorem dX12_runs_193 : decode cX12_runs 193 = .ok (.bipush 7, 2) := by decide +kernel
theorem dX12_runs_195 : decode cX12_runs 195 = .ok (.iadd, 1) := by decide +kernel
theorem dX12_runs_196 : decode cX12_runs 196 = .ok (.laload, 1) := by decide +kernel
theorem dX12_runs_197 : decode cX12_runs 197 = .ok (.goto 13, 3) := by decide +kernel
theorem dX12_runs_200 : decode cX12_runs 200 = .ok (.aload_n 0, 1) := by decide +kernel
theorem dX12_runs_201 : decode cX12_runs 201 = .ok (.getfield 16, 3) := by decide +kernel
theorem dX12_runs_204 : decode cX12_runs 204 = .ok (.iload 4, 2) := by decide +kernel
theorem dX12_runs_206 : decode cX12_runs 206 = .ok (.bipush 8, 2) := by decide +kernel
theorem dX12_runs_208 : decode cX12_runs 208 = .ok (.iadd, 1) := by decide +kernel
theorem dX12_runs_209 : decode cX12_runs 209 = .ok (.laload, 1) := by decide +kernel
theorem dX12_runs_210 : decode cX12_runs 210 = .ok (.lastore, 1) := by decide +kernel
theorem dX12_runs_211 : decode cX12_runs 211 = .ok (.iinc 3 1, 3) := by decide +kernel
theorem dX12_runs_214 : decode cX12_runs 214 = .ok (.goto (-140), 3) := by decide +kernel
theorem dX12_runs_217 : decode cX12_runs 217 = .ok (.aload_n 0, 1) := by decide +kernel
theorem dX12_runs_218 : decode cX12_runs 218 = .ok (.getfield 16, 3) := by decide +kernel
theorem dX12_runs_221 : decode cX12_runs 221 = .ok (.iload_n 2, 1) := by decide +kernel
theorem dX12_runs_222 : decode cX12_runs 222 = .ok (.iconst 3, 1) := by decide +kernel
theorem dX12_runs_223 : decode cX12_runs 223 = .ok (.iadd, 1) := by decide +kernel
theorem dX12_runs_224 : decode cX12_runs 224 = .ok (.dup2, 1) := by decide +kernel
theorem dX12_runs_225 : decode cX12_runs 225 = .ok (.laload, 1) := by decide +kernel
theorem dX12_runs_226 : decode cX12_runs 226 = .ok (.lconst 1, 1) := by decide +kernel
theorem dX12_runs_227 : decode cX12_runs 227 = .ok (.lsub, 1) := by decide +kernel
theorem dX12_runs_228 : decode cX12_runs 228 = .ok (.lastore, 1) := by decide +kernel
theorem dX12_runs_229 : decode cX12_runs 229 = .ok (.aload_n 0, 1) := by decide +kernel
theorem dX12_runs_230 : decode cX12_runs 230 = .ok (.getfield 16, 3) := by decide +kernel
theorem dX12_runs_233 : decode cX12_runs 233 = .ok (.iload_n 2, 1) := by decide +kernel
theorem dX12_runs_234 : decode cX12_runs 234 = .ok (.iconst 3, 1) := by decide +kernel
theorem dX12_runs_235 : decode cX12_runs 235 = .ok (.iadd, 1) := by decide +kernel
theorem dX12_runs_236 : decode cX12_runs 236 = .ok (.laload, 1) := by decide +kernel
theorem dX12_runs_237 : decode cX12_runs 237 = .ok (.lconst 0, 1) := by decide +kernel
theorem dX12_runs_238 : decode cX12_runs 238 = .ok (.lcmp, 1) := by decide +kernel
theorem dX12_runs_239 : decode cX12_runs 239 = .ok (.ifCond .ne 75, 3) := by decide +kernel
theorem dX12_runs_242 : decode cX12_runs 242 = .ok (.aload_n 0, 1) := by decide +kernel
theorem dX12_runs_243 : decode cX12_runs 243 = .ok (.getfield 16, 3) := by decide +kernel
theorem dX12_runs_246 : decode cX12_runs 246 = .ok (.iload_n 2, 1) := by decide +kernel
theorem dX12_runs_247 : decode cX12_runs 247 = .ok (.iconst 5, 1) := by decide +kernel
theorem dX12_runs_248 : decode cX12_runs 248 = .ok (.iadd, 1) := by decide +kernel
theorem dX12_runs_249 : decode cX12_runs 249 = .ok (.dup2, 1) := by decide +kernel
theorem dX12_runs_250 : decode cX12_runs 250 = .ok (.laload, 1) := by decide +kernel
theorem dX12_runs_251 : decode cX12_runs 251 = .ok (.lconst 1, 1) := by decide +kernel
theorem dX12_runs_252 : decode cX12_runs 252 = .ok (.ladd, 1) := by decide +kernel
theorem dX12_runs_253 : decode cX12_runs 253 = .ok (.lastore, 1) := by decide +kernel
theorem dX12_runs_254 : decode cX12_runs 254 = .ok (.aload_n 0, 1) := by decide +kernel
theorem dX12_runs_255 : decode cX12_runs 255 = .ok (.getfield 16, 3) := by decide +kernel
theorem dX12_runs_258 : decode cX12_runs 258 = .ok (.iload_n 2, 1) := by decide +kernel
theorem dX12_runs_259 : decode cX12_runs 259 = .ok (.bipush 6, 2) := by decide +kernel
theorem dX12_runs_261 : decode cX12_runs 261 = .ok (.iadd, 1) := by decide +kernel
theorem dX12_runs_262 : decode cX12_runs 262 = .ok (.dup2, 1) := by decide +kernel
theorem dX12_runs_263 : decode cX12_runs 263 = .ok (.laload, 1) := by decide +kernel
theorem dX12_runs_264 : decode cX12_runs 264 = .ok (.aload_n 0, 1) := by decide +kernel
theorem dX12_runs_265 : decode cX12_runs 265 = .ok (.invokevirtual 105, 3) := by decide +kernel
theorem dX12_runs_268 : decode cX12_runs 268 = .ok (.aload_n 0, 1) := by decide +kernel
theorem dX12_runs_269 : decode cX12_runs 269 = .ok (.iload_n 1, 1) := by decide +kernel
theorem dX12_runs_270 : decode cX12_runs 270 = .ok (.invokevirtual 98, 3) := by decide +kernel
theorem dX12_runs_273 : decode cX12_runs 273 = .ok (.lmul, 1) := by decide +kernel
theorem dX12_runs_274 : decode cX12_runs 274 = .ok (.aload_n 0, 1) := by decide +kernel
theorem dX12_runs_275 : decode cX12_runs 275 = .ok (.invokevirtual 101, 3) := by decide +kernel
theorem dX12_runs_278 : decode cX12_runs 278 = .ok (.lcmp, 1) := by decide +kernel
theorem dX12_runs_279 : decode cX12_runs 279 = .ok (.ifCond .ge 7, 3) := by decide +kernel
theorem dX12_runs_282 : decode cX12_runs 282 = .ok (.lconst 1, 1) := by decide +kernel
theorem dX12_runs_283 : decode cX12_runs 283 = .ok (.goto 4, 3) := by decide +kernel
theorem dX12_runs_286 : decode cX12_runs 286 = .ok (.lconst 0, 1) := by decide +kernel
theorem dX12_runs_287 : decode cX12_runs 287 = .ok (.ladd, 1) := by decide +kernel
theorem dX12_runs_288 : decode cX12_runs 288 = .ok (.lastore, 1) := by decide +kernel
theorem dX12_runs_289 : decode cX12_runs 289 = .ok (.aload_n 0, 1) := by decide +kernel
theorem dX12_runs_290 : decode cX12_runs 290 = .ok (.getfield 16, 3) := by decide +kernel
theorem dX12_runs_293 : decode cX12_runs 293 = .ok (.iload_n 2, 1) := by decide +kernel
theorem dX12_runs_294 : decode cX12_runs 294 = .ok (.iconst 3, 1) := by decide +kernel
theorem dX12_runs_295 : decode cX12_runs 295 = .ok (.iadd, 1) := by decide +kernel
theorem dX12_runs_296 : decode cX12_runs 296 = .ok (.aload_n 0, 1) := by decide +kernel
theorem dX12_runs_297 : decode cX12_runs 297 = .ok (.getfield 16, 3) := by decide +kernel
theorem dX12_runs_300 : decode cX12_runs 300 = .ok (.iload_n 2, 1) := by decide +kernel
theorem dX12_runs_301 : decode cX12_runs 301 = .ok (.iconst 1, 1) := by decide +kernel
theorem dX12_runs_302 : decode cX12_runs 302 = .ok (.iadd, 1) := by decide +kernel
theorem dX12_runs_303 : decode cX12_runs 303 = .ok (.laload, 1) := by decide +kernel
theorem dX12_runs_304 : decode cX12_runs 304 = .ok (.lastore, 1) := by decide +kernel
theorem dX12_runs_305 : decode cX12_runs 305 = .ok (.aload_n 0, 1) := by decide +kernel
theorem dX12_runs_306 : decode cX12_runs 306 = .ok (.getfield 16, 3) := by decide +kernel
theorem dX12_runs_309 : decode cX12_runs 309 = .ok (.iconst 4, 1) := by decide +kernel
theorem dX12_runs_310 : decode cX12_runs 310 = .ok (.ldc2_w 65, 3) := by decide +kernel
theorem dX12_runs_313 : decode cX12_runs 313 = .ok (.lastore, 1) := by decide +kernel
theorem dX12_runs_314 : decode cX12_runs 314 = .ok (.return_, 1) := by decide +kernel
theorem dX12_tick_0 : decode cX12_tick 0 = .ok (.iconst 0, 1) := by decide +kernel
theorem dX12_tick_1 : decode cX12_tick 1 = .ok (.istore_n 2, 1) := by decide +kernel
theorem dX12_tick_2 : decode cX12_tick 2 = .ok (.iload_n 2, 1) := by decide +kernel
theorem dX12_tick_3 : decode cX12_tick 3 = .ok (.i2l, 1) := by decide +kernel
theorem dX12_tick_4 : decode cX12_tick 4 = .ok (.aload_n 0, 1) := by decide +kernel
theorem dX12_tick_5 : decode cX12_tick 5 = .ok (.getfield 16, 3) := by decide +kernel
theorem dX12_tick_8 : decode cX12_tick 8 = .ok (.iconst 0, 1) := by decide +kernel
theorem dX12_tick_9 : decode cX12_tick 9 = .ok (.laload, 1) := by decide +kernel
theorem dX12_tick_10 : decode cX12_tick 10 = .ok (.lcmp, 1) := by decide +kernel
theorem dX12_tick_11 : decode cX12_tick 11 = .ok (.ifCond .ge 79, 3) := by decide +kernel
theorem dX12_tick_14 : decode cX12_tick 14 = .ok (.iload_n 2, 1) := by decide +kernel
theorem dX12_tick_15 : decode cX12_tick 15 = .ok (.invokestatic 87, 3) := by decide +kernel
theorem dX12_tick_18 : decode cX12_tick 18 = .ok (.istore_n 3, 1) := by decide +kernel
theorem dX12_tick_19 : decode cX12_tick 19 = .ok (.aload_n 0, 1) := by decide +kernel
theorem dX12_tick_20 : decode cX12_tick 20 = .ok (.getfield 16, 3) := by decide +kernel
theorem dX12_tick_23 : decode cX12_tick 23 = .ok (.iload_n 3, 1) := by decide +kernel
theorem dX12_tick_24 : decode cX12_tick 24 = .ok (.bipush 40, 2) := by decide +kernel
theorem dX12_tick_26 : decode cX12_tick 26 = .ok (.iadd, 1) := by decide +kernel
theorem dX12_tick_27 : decode cX12_tick 27 = .ok (.aload_n 0, 1) := by decide +kernel
theorem dX12_tick_28 : decode cX12_tick 28 = .ok (.getfield 16, 3) := by decide +kernel
theorem dX12_tick_31 : decode cX12_tick 31 = .ok (.iload_n 3, 1) := by decide +kernel
theorem dX12_tick_32 : decode cX12_tick 32 = .ok (.bipush 41, 2) := by decide +kernel
theorem dX12_tick_34 : decode cX12_tick 34 = .ok (.iadd, 1) := by decide +kernel
theorem dX12_tick_35 : decode cX12_tick 35 = .ok (.laload, 1) := by decide +kernel
theorem dX12_tick_36 : decode cX12_tick 36 = .ok (.lconst 0, 1) := by decide +kernel
theorem dX12_tick_37 : decode cX12_tick 37 = .ok (.lcmp, 1) := by decide +kernel
theorem dX12_tick_38 : decode cX12_tick 38 = .ok (.ifCond .le 36, 3) := by decide +kernel
theorem dX12_tick_41 : decode cX12_tick 41 = .ok (.aload_n 0, 1) := by decide +kernel
theorem dX12_tick_42 : decode cX12_tick 42 = .ok (.getfield 16, 3) := by decide +kernel
theorem dX12_tick_45 : decode cX12_tick 45 = .ok (.iconst 1, 1) := by decide +kernel
theorem dX12_tick_46 : decode cX12_tick 46 = .ok (.laload, 1) := by decide +kernel
theorem dX12_tick_47 : decode cX12_tick 47 = .ok (.aload_n 0, 1) := by decide +kernel
theorem dX12_tick_48 : decode cX12_tick 48 = .ok (.getfield 16, 3) := by decide +kernel
theorem dX12_tick_51 : decode cX12_tick 51 = .ok (.iload_n 3, 1) := by decide +kernel
theorem dX12_tick_52 : decode cX12_tick 52 = .ok (.bipush 42, 2) := by decide +kernel
theorem dX12_tick_54 : decode cX12_tick 54 = .ok (.iadd, 1) := by decide +kernel
theorem dX12_tick_55 : decode cX12_tick 55 = .ok (.laload, 1) := by decide +kernel
theorem dX12_tick_56 : decode cX12_tick 56 = .ok (.lrem, 1) := by decide +kernel
theorem dX12_tick_57 : decode cX12_tick 57 = .ok (.lconst 0, 1) := by decide +kernel
theorem dX12_tick_58 : decode cX12_tick 58 = .ok (.lcmp, 1) := by decide +kernel
theorem dX12_tick_59 : decode cX12_tick 59 = .ok (.ifCond .ne 15, 3) := by decide +kernel
theorem dX12_tick_62 : decode cX12_tick 62 = .ok (.aload_n 0, 1) := by decide +kernel
theorem dX12_tick_63 : decode cX12_tick 63 = .ok (.getfield 16, 3) := by decide +kernel
theorem dX12_tick_66 : decode cX12_tick 66 = .ok (.iload_n 3, 1) := by decide +kernel
theorem dX12_tick_67 : decode cX12_tick 67 = .ok (.bipush 41, 2) := by decide +kernel
theorem dX12_tick_69 : decode cX12_tick 69 = .ok (.iadd, 1) := by decide +kernel
theorem dX12_tick_70 : decode cX12_tick 70 = .ok (.laload, 1) := by decide +kernel
theorem dX12_tick_71 : decode cX12_tick 71 = .ok (.goto 12, 3) := by decide +kernel
theorem dX12_tick_74 : decode cX12_tick 74 = .ok (.aload_n 0, 1) := by decide +kernel
theorem dX12_tick_75 : decode cX12_tick 75 = .ok (.getfield 16, 3) := by decide +kernel
theorem dX12_tick_78 : decode cX12_tick 78 = .ok (.iload_n 3, 1) := by decide +kernel
theorem dX12_tick_79 : decode cX12_tick 79 = .ok (.bipush 40, 2) := by decide +kernel
theorem dX12_tick_81 : decode cX12_tick 81 = .ok (.iadd, 1) := by decide +kernel
theorem dX12_tick_82 : decode cX12_tick 82 = .ok (.laload, 1) := by decide +kernel
theorem dX12_tick_83 : decode cX12_tick 83 = .ok (.lastore, 1) := by decide +kernel
theorem dX12_tick_84 : decode cX12_tick 84 = .ok (.iinc 2 1, 3) := by decide +kernel
theorem dX12_tick_87 : decode cX12_tick 87 = .ok (.goto (-85), 3) := by decide +kernel
theorem dX12_tick_90 : decode cX12_tick 90 = .ok (.iconst 0, 1) := by decide +kernel
theorem dX12_tick_91 : decode cX12_tick 91 = .ok (.istore_n 2, 1) := by decide +kernel
theorem dX12_tick_92 : decode cX12_tick 92 = .ok (.iload_n 2, 1) := by decide +kernel
theorem dX12_tick_93 : decode cX12_tick 93 = .ok (.i2l, 1) := by decide +kernel
theorem dX12_tick_94 : decode cX12_tick 94 = .ok (.aload_n 0, 1) := by decide +kernel
theorem dX12_tick_95 : decode cX12_tick 95 = .ok (.getfield 16, 3) := by decide +kernel
theorem dX12_tick_98 : decode cX12_tick 98 = .ok (.iconst 0, 1) := by decide +kernel
theorem dX12_tick_99 : decode cX12_tick 99 = .ok (.laload, 1) := by decide +kernel
theorem dX12_tick_100 : decode cX12_tick 100 = .ok (.lcmp, 1) := by decide +kernel
theorem dX12_tick_101 : decode cX12_tick 101 = .ok (.ifCond .ge 96, 3) := by decide +kernel
theorem dX12_tick_104 : decode cX12_tick 104 = .ok (.aload_n 0, 1) := by decide +kernel
theorem dX12_tick_105 : decode cX12_tick 105 = .ok (.getfield 16, 3) := by decide +kernel
theorem dX12_tick_108 : decode cX12_tick 108 = .ok (.iload_n 2, 1) := by decide +kernel
theorem dX12_tick_109 : decode cX12_tick 109 = .ok (.invokestatic 87, 3) := by decide +kernel
theorem dX12_tick_112 : decode cX12_tick 112 = .ok (.iconst 2, 1) := by decide +kernel
theorem dX12_tick_113 : decode cX12_tick 113 = .ok (.iadd, 1) := by decide +kernel
theorem dX12_tick_114 : decode cX12_tick 114 = .ok (.laload, 1) := by decide +kernel
theorem dX12_tick_115 : decode cX12_tick 115 = .ok (.ldc2_w 124, 3) := by decide +kernel
theorem dX12_tick_118 : decode cX12_tick 118 = .ok (.lcmp, 1) := by decide +kernel
theorem dX12_tick_119 : decode cX12_tick 119 = .ok (.ifCond .ne 27, 3) := by decide +kernel
theorem dX12_tick_122 : decode cX12_tick 122 = .ok (.aload_n 0, 1) := by decide +kernel
theorem dX12_tick_123 : decode cX12_tick 123 = .ok (.iload_n 2, 1) := by decide +kernel
theorem dX12_tick_124 : decode cX12_tick 124 = .ok (.invokevirtual 145, 3) := by decide +kernel
theorem dX12_tick_127 : decode cX12_tick 127 = .ok (.ifCond .ne 19, 3) := by decide +kernel
theorem dX12_tick_130 : decode cX12_tick 130 = .ok (.aload_n 0, 1) := by decide +kernel
theorem dX12_tick_131 : decode cX12_tick 131 = .ok (.iload_n 2, 1) := by decide +kernel
theorem dX12_tick_132 : decode cX12_tick 132 = .ok (.invokevirtual 148, 3) := by decide +kernel
theorem dX12_tick_135 : decode cX12_tick 135 = .ok (.ifCond .eq 11, 3) := by decide +kernel
theorem dX12_tick_138 : decode cX12_tick 138 = .ok (.aload_n 0, 1) := by decide +kernel
theorem dX12_tick_139 : decode cX12_tick 139 = .ok (.iload_n 2, 1) := by decide +kernel
theorem dX12_tick_140 : decode cX12_tick 140 = .ok (.invokevirtual 151, 3) := by decide +kernel
theorem dX12_tick_143 : decode cX12_tick 143 = .ok (.goto 48, 3) := by decide +kernel
theorem dX12_tick_146 : decode cX12_tick 146 = .ok (.aload_n 0, 1) := by decide +kernel
theorem dX12_tick_147 : decode cX12_tick 147 = .ok (.getfield 16, 3) := by decide +kernel
theorem dX12_tick_150 : decode cX12_tick 150 = .ok (.iload_n 2, 1) := by decide +kernel
theorem dX12_tick_151 : decode cX12_tick 151 = .ok (.invokestatic 87, 3) := by decide +kernel
theorem dX12_tick_154 : decode cX12_tick 154 = .ok (.iconst 2, 1) := by decide +kernel
theorem dX12_tick_155 : decode cX12_tick 155 = .ok (.iadd, 1) := by decide +kernel
theorem dX12_tick_156 : decode cX12_tick 156 = .ok (.laload, 1) := by decide +kernel
theorem dX12_tick_157 : decode cX12_tick 157 = .ok (.ldc2_w 122, 3) := by decide +kernel
theorem dX12_tick_160 : decode cX12_tick 160 = .ok (.lcmp, 1) := by decide +kernel
theorem dX12_tick_161 : decode cX12_tick 161 = .ok (.ifCond .ne 30, 3) := by decide +kernel
theorem dX12_tick_164 : decode cX12_tick 164 = .ok (.aload_n 0, 1) := by decide +kernel
theorem dX12_tick_165 : decode cX12_tick 165 = .ok (.getfield 16, 3) := by decide +kernel
theorem dX12_tick_168 : decode cX12_tick 168 = .ok (.iload_n 2, 1) := by decide +kernel
theorem dX12_tick_169 : decode cX12_tick 169 = .ok (.invokestatic 87, 3) := by decide +kernel
theorem dX12_tick_172 : decode cX12_tick 172 = .ok (.bipush 9, 2) := by decide +kernel
theorem dX12_tick_174 : decode cX12_tick 174 = .ok (.iadd, 1) := by decide +kernel
theorem dX12_tick_175 : decode cX12_tick 175 = .ok (.laload, 1) := by decide +kernel
theorem dX12_tick_176 : decode cX12_tick 176 = .ok (.aload_n 0, 1) := by decide +kernel
theorem dX12_tick_177 : decode cX12_tick 177 = .ok (.getfield 16, 3) := by decide +kernel
theorem dX12_tick_180 : decode cX12_tick 180 = .ok (.iconst 1, 1) := by decide +kernel
theorem dX12_tick_181 : decode cX12_tick 181 = .ok (.laload, 1) := by decide +kernel
theorem dX12_tick_182 : decode cX12_tick 182 = .ok (.lcmp, 1) := by decide +kernel
theorem dX12_tick_183 : decode cX12_tick 183 = .ok (.ifCond .gt 8, 3) := by decide +kernel
theorem dX12_tick_186 : decode cX12_tick 186 = .ok (.aload_n 0, 1) := by decide +kernel
theorem dX12_tick_187 : decode cX12_tick 187 = .ok (.iload_n 2, 1) := by decide +kernel
theorem dX12_tick_188 : decode cX12_tick 188 = .ok (.invokevirtual 274, 3) := by decide +kernel
theorem dX12_tick_191 : decode cX12_tick 191 = .ok (.iinc 2 1, 3) := by decide +kernel
theorem dX12_tick_194 : decode cX12_tick 194 = .ok (.goto (-102), 3) := by decide +kernel
theorem dX12_tick_197 : decode cX12_tick 197 = .ok (.aload_n 0, 1) := by decide +kernel
theorem dX12_tick_198 : decode cX12_tick 198 = .ok (.iload_n 1, 1) := by decide +kernel
theorem dX12_tick_199 : decode cX12_tick 199 = .ok (.invokevirtual 277, 3) := by decide +kernel
theorem dX12_tick_202 : decode cX12_tick 202 = .ok (.istore_n 2, 1) := by decide +kernel
theorem dX12_tick_203 : decode cX12_tick 203 = .ok (.aload_n 0, 1) := by decide +kernel
theorem dX12_tick_204 : decode cX12_tick 204 = .ok (.iload_n 2, 1) := by decide +kernel
theorem dX12_tick_205 : decode cX12_tick 205 = .ok (.invokevirtual 280, 3) := by decide +kernel
theorem dX12_tick_208 : decode cX12_tick 208 = .ok (.aload_n 0, 1) := by decide +kernel
theorem dX12_tick_209 : decode cX12_tick 209 = .ok (.getfield 16, 3) := by decide +kernel
theorem dX12_tick_212 : decode cX12_tick 212 = .ok (.iconst 4, 1) := by decide +kernel
theorem dX12_tick_213 : decode cX12_tick 213 = .ok (.iload_n 2, 1) := by decide +kernel
theorem dX12_tick_214 : decode cX12_tick 214 = .ok (.i2l, 1) := by decide +kernel
theorem dX12_tick_215 : decode cX12_tick 215 = .ok (.lastore, 1) := by decide +kernel
theorem dX12_tick_216 : decode cX12_tick 216 = .ok (.iload_n 2, 1) := by decide +kernel
theorem dX12_tick_217 : decode cX12_tick 217 = .ok (.iconst (-1), 1) := by decide +kernel
theorem dX12_tick_218 : decode cX12_tick 218 = .ok (.if_icmp .eq 119, 3) := by decide +kernel
theorem dX12_tick_221 : decode cX12_tick 221 = .ok (.aload_n 0, 1) := by decide +kernel
theorem dX12_tick_222 : decode cX12_tick 222 = .ok (.iload_n 2, 1) := by decide +kernel
theorem dX12_tick_223 : decode cX12_tick 223 = .ok (.invokevirtual 283, 3) := by decide +kernel
theorem dX12_tick_226 : decode cX12_tick 226 = .ok (.aload_n 0, 1) := by decide +kernel
theorem dX12_tick_227 : decode cX12_tick 227 = .ok (.getfield 16, 3) := by decide +kernel
theorem dX12_tick_230 : decode cX12_tick 230 = .ok (.iconst 3, 1) := by decide +kernel
theorem dX12_tick_231 : decode cX12_tick 231 = .ok (.iload_n 2, 1) := by decide +kernel
theorem dX12_tick_232 : decode cX12_tick 232 = .ok (.i2l, 1) := by decide +kernel
theorem dX12_tick_233 : decode cX12_tick 233 = .ok (.lastore, 1) := by decide +kernel
theorem dX12_tick_234 : decode cX12_tick 234 = .ok (.iload_n 2, 1) := by decide +kernel
theorem dX12_tick_235 : decode cX12_tick 235 = .ok (.invokestatic 87, 3) := by decide +kernel
theorem dX12_tick_238 : decode cX12_tick 238 = .ok (.istore_n 3, 1) := by decide +kernel
theorem dX12_tick_239 : decode cX12_tick 239 = .ok (.aload_n 0, 1) := by decide +kernel
theorem dX12_tick_240 : decode cX12_tick 240 = .ok (.getfield 16, 3) := by decide +kernel
theorem dX12_tick_243 : decode cX12_tick 243 = .ok (.iload_n 3, 1) := by decide +kernel
theorem dX12_tick_244 : decode cX12_tick 244 = .ok (.bipush 13, 2) := by decide +kernel
theorem dX12_tick_246 : decode cX12_tick 246 = .ok (.iadd, 1) := by decide +kernel
theorem dX12_tick_247 : decode cX12_tick 247 = .ok (.laload, 1) := by decide +kernel
theorem dX12_tick_248 : decode cX12_tick 248 = .ok (.lconst 0, 1) := by decide +kernel
theorem dX12_tick_249 : decode cX12_tick 249 = .ok (.lcmp, 1) := by decide +kernel
theorem dX12_tick_250 : decode cX12_tick 250 = .ok (.ifCond .le 55, 3) := by decide +kernel
theorem dX12_tick_253 : decode cX12_tick 253 = .ok (.aload_n 0, 1) := by decide +kernel
theorem dX12_tick_254 : decode cX12_tick 254 = .ok (.getfield 16, 3) := by decide +kernel
theorem dX12_tick_257 : decode cX12_tick 257 = .ok (.iload_n 3, 1) := by decide +kernel
theorem dX12_tick_258 : decode cX12_tick 258 = .ok (.bipush 15, 2) := by decide +kernel
theorem dX12_tick_260 : decode cX12_tick 260 = .ok (.iadd, 1) := by decide +kernel
theorem dX12_tick_261 : decode cX12_tick 261 = .ok (.dup2, 1) := by decide +kernel
theorem dX12_tick_262 : decode cX12_tick 262 = .ok (.laload, 1) := by decide +kernel
theorem dX12_tick_263 : decode cX12_tick 263 = .ok (.lconst 1, 1) := by decide +kernel
theorem dX12_tick_264 : decode cX12_tick 264 = .ok (.lsub, 1) := by decide +kernel
theorem dX12_tick_265 : decode cX12_tick 265 = .ok (.lastore, 1) := by decide +kernel
theorem dX12_tick_266 : decode cX12_tick 266 = .ok (.aload_n 0, 1) := by decide +kernel
theorem dX12_tick_267 : decode cX12_tick 267 = .ok (.getfield 16, 3) := by decide +kernel
theorem dX12_tick_270 : decode cX12_tick 270 = .ok (.iload_n 3, 1) := by decide +kernel
theorem dX12_tick_271 : decode cX12_tick 271 = .ok (.bipush 15, 2) := by decide +kernel
theorem dX12_tick_273 : decode cX12_tick 273 = .ok (.iadd, 1) := by decide +kernel
theorem dX12_tick_274 : decode cX12_tick 274 = .ok (.laload, 1) := by decide +kernel
theorem dX12_tick_275 : decode cX12_tick 275 = .ok (.lconst 0, 1) := by decide +kernel
theorem dX12_tick_276 : decode cX12_tick 276 = .ok (.lcmp, 1) := by decide +kernel
theorem dX12_tick_277 : decode cX12_tick 277 = .ok (.ifCond .ne 28, 3) := by decide +kernel
theorem dX12_tick_280 : decode cX12_tick 280 = .ok (.aload_n 0, 1) := by decide +kernel
theorem dX12_tick_281 : decode cX12_tick 281 = .ok (.iload_n 2, 1) := by decide +kernel
theorem dX12_tick_282 : decode cX12_tick 282 = .ok (.aload_n 0, 1) := by decide +kernel
theorem dX12_tick_283 : decode cX12_tick 283 = .ok (.getfield 16, 3) := by decide +kernel
theorem dX12_tick_286 : decode cX12_tick 286 = .ok (.iload_n 3, 1) := by decide +kernel
theorem dX12_tick_287 : decode cX12_tick 287 = .ok (.bipush 14, 2) := by decide +kernel
theorem dX12_tick_289 : decode cX12_tick 289 = .ok (.iadd, 1) := by decide +kernel
theorem dX12_tick_290 : decode cX12_tick 290 = .ok (.laload, 1) := by decide +kernel
theorem dX12_tick_291 : decode cX12_tick 291 = .ok (.l2i, 1) := by decide +kernel
theorem dX12_tick_292 : decode cX12_tick 292 = .ok (.iconst 1, 1) := by decide +kernel
theorem dX12_tick_293 : decode cX12_tick 293 = .ok (.iadd, 1) := by decide +kernel
theorem dX12_tick_294 : decode cX12_tick 294 = .ok (.aload_n 0, 1) := by decide +kernel
theorem dX12_tick_295 : decode cX12_tick 295 = .ok (.getfield 16, 3) := by decide +kernel
theorem dX12_tick_298 : decode cX12_tick 298 = .ok (.iconst 1, 1) := by decide +kernel
theorem dX12_tick_299 : decode cX12_tick 299 = .ok (.laload, 1) := by decide +kernel
theorem dX12_tick_300 : decode cX12_tick 300 = .ok (.lconst 1, 1) := by decide +kernel
theorem dX12_tick_301 : decode cX12_tick 301 = .ok (.ladd, 1) := by decide +kernel
theorem dX12_tick_302 : decode cX12_tick 302 = .ok (.invokevirtual 223, 3) := by decide +kernel
theorem dX12_tick_305 : decode cX12_tick 305 = .ok (.aload_n 0, 1) := by decide +kernel
theorem dX12_tick_306 : decode cX12_tick 306 = .ok (.iload_n 2, 1) := by decide +kernel
theorem dX12_tick_307 : decode cX12_tick 307 = .ok (.invokevirtual 90, 3) := by decide +kernel
theorem dX12_tick_310 : decode cX12_tick 310 = .ok (.ifCond .eq 27, 3) := by decide +kernel
theorem dX12_tick_313 : decode cX12_tick 313 = .ok (.aload_n 0, 1) := by decide +kernel
theorem dX12_tick_314 : decode cX12_tick 314 = .ok (.iload_n 2, 1) := by decide +kernel
theorem dX12_tick_315 : decode cX12_tick 315 = .ok (.invokevirtual 145, 3) := by decide +kernel
theorem dX12_tick_318 : decode cX12_tick 318 = .ok (.ifCond .eq 19, 3) := by decide +kernel
theorem dX12_tick_321 : decode cX12_tick 321 = .ok (.aload_n 0, 1) := by decide +kernel
theorem dX12_tick_322 : decode cX12_tick 322 = .ok (.iload_n 2, 1) := by decide +kernel
theorem dX12_tick_323 : decode cX12_tick 323 = .ok (.invokevirtual 154, 3) := by decide +kernel
theorem dX12_tick_326 : decode cX12_tick 326 = .ok (.aload_n 0, 1) := by decide +kernel
theorem dX12_tick_327 : decode cX12_tick 327 = .ok (.getfield 16, 3) := by decide +kernel
theorem dX12_tick_330 : decode cX12_tick 330 = .ok (.iload_n 3, 1) := by decide +kernel
theorem dX12_tick_331 : decode cX12_tick 331 = .ok (.iconst 2, 1) := by decide +kernel
theorem dX12_tick_332 : decode cX12_tick 332 = .ok (.iadd, 1) := by decide +kernel
theorem dX12_tick_333 : decode cX12_tick 333 = .ok (.ldc2_w 124, 3) := by decide +kernel
theorem dX12_tick_336 : decode cX12_tick 336 = .ok (.lastore, 1) := by decide +kernel
theorem dX12_tick_337 : decode cX12_tick 337 = .ok (.aload_n 0, 1) := by decide +kernel
theorem dX12_tick_338 : decode cX12_tick 338 = .ok (.getfield 16, 3) := by decide +kernel
theorem dX12_tick_341 : decode cX12_tick 341 = .ok (.iconst 1, 1) := by decide +kernel
theorem dX12_tick_342 : decode cX12_tick 342 = .ok (.dup2, 1) := by decide +kernel
theorem dX12_tick_343 : decode cX12_tick 343 = .ok (.laload, 1) := by decide +kernel
theorem dX12_tick_344 : decode cX12_tick 344 = .ok (.lconst 1, 1) := by decide +kernel
theorem dX12_tick_345 : decode cX12_tick 345 = .ok (.ladd, 1) := by decide +kernel
theorem dX12_tick_346 : decode cX12_tick 346 = .ok (.lastore, 1) := by decide +kernel
theorem dX12_tick_347 : decode cX12_tick 347 = .ok (.iload_n 2, 1) := by decide +kernel
theorem dX12_tick_348 : decode cX12_tick 348 = .ok (.ireturn, 1) := by decide +kernel
theorem dX12_ticks_0 : decode cX12_ticks 0 = .ok (.aload_n 0, 1) := by decide +kernel
theorem dX12_ticks_1 : decode cX12_ticks 1 = .ok (.iconst 0, 1) := by decide +kernel
theorem dX12_ticks_2 : decode cX12_ticks 2 = .ok (.putfield 67, 3) := by decide +kernel
theorem dX12_ticks_5 : decode cX12_ticks 5 = .ok (.iload_n 1, 1) := by decide +kernel
theorem dX12_ticks_6 : decode cX12_ticks 6 = .ok (.i2l, 1) := by decide +kernel
theorem dX12_ticks_7 : decode cX12_ticks 7 = .ok (.lconst 1, 1) := by decide +kernel
theorem dX12_ticks_8 : decode cX12_ticks 8 = .ok (.ldc2_w 172, 3) := by decide +kernel
theorem dX12_ticks_11 : decode cX12_ticks 11 = .ok (.invokestatic 83, 3) := by decide +kernel
theorem dX12_ticks_14 : decode cX12_ticks 14 = .ok (.ifCond .ne 9, 3) := by decide +kernel
theorem dX12_ticks_17 : decode cX12_ticks 17 = .ok (.aload_n 0, 1) := by decide +kernel
theorem dX12_ticks_18 : decode cX12_ticks 18 = .ok (.iconst (-1), 1) := by decide +kernel
theorem dX12_ticks_19 : decode cX12_ticks 19 = .ok (.invokevirtual 76, 3) := by decide +kernel
theorem dX12_ticks_22 : decode cX12_ticks 22 = .ok (.ireturn, 1) := by decide +kernel
theorem dX12_ticks_23 : decode cX12_ticks 23 = .ok (.aload_n 0, 1) := by decide +kernel
theorem dX12_ticks_24 : decode cX12_ticks 24 = .ok (.getfield 16, 3) := by decide +kernel
theorem dX12_ticks_27 : decode cX12_ticks 27 = .ok (.iconst 1, 1) := by decide +kernel
theorem dX12_ticks_28 : decode cX12_ticks 28 = .ok (.laload, 1) := by decide +kernel
theorem dX12_ticks_29 : decode cX12_ticks 29 = .ok (.iload_n 1, 1) := by decide +kernel
theorem dX12_ticks_30 : decode cX12_ticks 30 = .ok (.i2l, 1) := by decide +kernel
theorem dX12_ticks_31 : decode cX12_ticks 31 = .ok (.ladd, 1) := by decide +kernel
theorem dX12_ticks_32 : decode cX12_ticks 32 = .ok (.ldc2_w 286, 3) := by decide +kernel
theorem dX12_ticks_35 : decode cX12_ticks 35 = .ok (.lcmp, 1) := by decide +kernel
theorem dX12_ticks_36 : decode cX12_ticks 36 = .ok (.ifCond .le 10, 3) := by decide +kernel
theorem dX12_ticks_39 : decode cX12_ticks 39 = .ok (.aload_n 0, 1) := by decide +kernel
theorem dX12_ticks_40 : decode cX12_ticks 40 = .ok (.bipush (-4), 2) := by decide +kernel
theorem dX12_ticks_42 : decode cX12_ticks 42 = .ok (.invokevirtual 76, 3) := by decide +kernel
theorem dX12_ticks_45 : decode cX12_ticks 45 = .ok (.ireturn, 1) := by decide +kernel
theorem dX12_ticks_46 : decode cX12_ticks 46 = .ok (.aload_n 0, 1) := by decide +kernel
theorem dX12_ticks_47 : decode cX12_ticks 47 = .ok (.bipush 6, 2) := by decide +kernel
theorem dX12_ticks_49 : decode cX12_ticks 49 = .ok (.invokevirtual 139, 3) := by decide +kernel
theorem dX12_ticks_52 : decode cX12_ticks 52 = .ok (.iconst 0, 1) := by decide +kernel
theorem dX12_ticks_53 : decode cX12_ticks 53 = .ok (.istore_n 2, 1) := by decide +kernel
theorem dX12_ticks_54 : decode cX12_ticks 54 = .ok (.iconst 0, 1) := by decide +kernel
theorem dX12_ticks_55 : decode cX12_ticks 55 = .ok (.istore_n 3, 1) := by decide +kernel
theorem dX12_ticks_56 : decode cX12_ticks 56 = .ok (.iload_n 3, 1) := by decide +kernel
theorem dX12_ticks_57 : decode cX12_ticks 57 = .ok (.iload_n 1, 1) := by decide +kernel
theorem dX12_ticks_58 : decode cX12_ticks 58 = .ok (.if_icmp .ge 26, 3) := by decide +kernel
theorem dX12_ticks_61 : decode cX12_ticks 61 = .ok (.iload_n 2, 1) := by decide +kernel
theorem dX12_ticks_62 : decode cX12_ticks 62 = .ok (.aload_n 0, 1) := by decide +kernel
theorem dX12_ticks_63 : decode cX12_ticks 63 = .ok (.iconst 0, 1) := by decide +kernel
theorem dX12_ticks_64 : decode cX12_ticks 64 = .ok (.invokevirtual 288, 3) := by decide +kernel
theorem dX12_ticks_67 : decode cX12_ticks 67 = .ok (.iconst (-1), 1) := by decide +kernel
theorem dX12_ticks_68 : decode cX12_ticks 68 = .ok (.if_icmp .ne 7, 3) := by decide +kernel
theorem dX12_ticks_71 : decode cX12_ticks 71 = .ok (.iconst 0, 1) := by decide +kernel
theorem dX12_ticks_72 : decode cX12_ticks 72 = .ok (.goto 4, 3) := by decide +kernel
theorem dX12_ticks_75 : decode cX12_ticks 75 = .ok (.iconst 1, 1) := by decide +kernel
theorem dX12_ticks_76 : decode cX12_ticks 76 = .ok (.iadd, 1) := by decide +kernel
theorem dX12_ticks_77 : decode cX12_ticks 77 = .ok (.istore_n 2, 1) := by decide +kernel
theorem dX12_ticks_78 : decode cX12_ticks 78 = .ok (.iinc 3 1, 3) := by decide +kernel
theorem dX12_ticks_81 : decode cX12_ticks 81 = .ok (.goto (-25), 3) := by decide +kernel
theorem dX12_ticks_84 : decode cX12_ticks 84 = .ok (.aload_n 0, 1) := by decide +kernel
theorem dX12_ticks_85 : decode cX12_ticks 85 = .ok (.iload_n 2, 1) := by decide +kernel
theorem dX12_ticks_86 : decode cX12_ticks 86 = .ok (.invokevirtual 80, 3) := by decide +kernel
theorem dX12_ticks_89 : decode cX12_ticks 89 = .ok (.ireturn, 1) := by decide +kernel
theorem dX12_of_0 : decode cX12_of 0 = .ok (.aload_n 0, 1) := by decide +kernel
theorem dX12_of_1 : decode cX12_of 1 = .ok (.iconst 0, 1) := by decide +kernel
theorem dX12_of_2 : decode cX12_of 2 = .ok (.putfield 67, 3) := by decide +kernel
theorem dX12_of_5 : decode cX12_of 5 = .ok (.aload_n 0, 1) := by decide +kernel
theorem dX12_of_6 : decode cX12_of 6 = .ok (.iload_n 1, 1) := by decide +kernel
theorem dX12_of_7 : decode cX12_of 7 = .ok (.invokevirtual 142, 3) := by decide +kernel
theorem dX12_of_10 : decode cX12_of 10 = .ok (.ifCond .ne 5, 3) := by decide +kernel
theorem dX12_of_13 : decode cX12_of 13 = .ok (.iconst (-1), 1) := by decide +kernel
theorem dX12_of_14 : decode cX12_of 14 = .ok (.ireturn, 1) := by decide +kernel
theorem dX12_of_15 : decode cX12_of 15 = .ok (.iload_n 1, 1) := by decide +kernel
theorem dX12_of_16 : decode cX12_of 16 = .ok (.invokestatic 87, 3) := by decide +kernel
theorem dX12_of_19 : decode cX12_of 19 = .ok (.istore_n 3, 1) := by decide +kernel
theorem dX12_of_20 : decode cX12_of 20 = .ok (.aload_n 0, 1) := by decide +kernel
theorem dX12_of_21 : decode cX12_of 21 = .ok (.iload_n 1, 1) := by decide +kernel
theorem dX12_of_22 : decode cX12_of 22 = .ok (.invokevirtual 90, 3) := by decide +kernel
theorem dX12_of_25 : decode cX12_of 25 = .ok (.istore 4, 2) := by decide +kernel
theorem dX12_of_27 : decode cX12_of 27 = .ok (.aload_n 0, 1) := by decide +kernel
theorem dX12_of_28 : decode cX12_of 28 = .ok (.getfield 16, 3) := by decide +kernel
theorem dX12_of_31 : decode cX12_of 31 = .ok (.iload_n 3, 1) := by decide +kernel
theorem dX12_of_32 : decode cX12_of 32 = .ok (.bipush 13, 2) := by decide +kernel
theorem dX12_of_34 : decode cX12_of 34 = .ok (.iadd, 1) := by decide +kernel
theorem dX12_of_35 : decode cX12_of 35 = .ok (.laload, 1) := by decide +kernel
theorem dX12_of_36 : decode cX12_of 36 = .ok (.lconst 0, 1) := by decide +kernel
theorem dX12_of_37 : decode cX12_of 37 = .ok (.lcmp, 1) := by decide +kernel
theorem dX12_of_38 : decode cX12_of 38 = .ok (.ifCond .le 7, 3) := by decide +kernel
theorem dX12_of_41 : decode cX12_of 41 = .ok (.iconst 1, 1) := by decide +kernel
theorem dX12_of_42 : decode cX12_of 42 = .ok (.goto 4, 3) := by decide +kernel
theorem dX12_of_45 : decode cX12_of 45 = .ok (.iconst 0, 1) := by decide +kernel
theorem dX12_of_46 : decode cX12_of 46 = .ok (.istore 5, 2) := by decide +kernel
theorem dX12_of_48 : decode cX12_of 48 = .ok (.iload_n 2, 1) := by decide +kernel
theorem dX12_of_49 : decode cX12_of 49 = .ok (.tableswitch 248 3 14 #[63, 248, 248, 248, 82, 248, 102, 132, 152, 197, 226, 237], 63) := by decide +kernel
theorem dX12_of_112 : decode cX12_of 112 = .ok (.iload 4, 2) := by decide +kernel
theorem dX12_of_114 : decode cX12_of 114 = .ok (.ifCond .eq 15, 3) := by decide +kernel
theorem dX12_of_117 : decode cX12_of 117 = .ok (.aload_n 0, 1) := by decide +kernel
theorem dX12_of_118 : decode cX12_of 118 = .ok (.getfield 16, 3) := by decide +kernel
theorem dX12_of_121 : decode cX12_of 121 = .ok (.iload_n 3, 1) := by decide +kernel
theorem dX12_of_122 : decode cX12_of 122 = .ok (.iconst 3, 1) := by decide +kernel
theorem dX12_of_123 : decode cX12_of 123 = .ok (.iadd, 1) := by decide +kernel
theorem dX12_of_124 : decode cX12_of 124 = .ok (.laload, 1) := by decide +kernel
theorem dX12_of_125 : decode cX12_of 125 = .ok (.l2i, 1) := by decide +kernel
theorem dX12_of_126 : decode cX12_of 126 = .ok (.goto 4, 3) := by decide +kernel
theorem dX12_of_129 : decode cX12_of 129 = .ok (.iconst (-1), 1) := by decide +kernel
theorem dX12_of_130 : decode cX12_of 130 = .ok (.ireturn, 1) := by decide +kernel
theorem dX12_of_131 : decode cX12_of 131 = .ok (.iload 4, 2) := by decide +kernel
theorem dX12_of_133 : decode cX12_of 133 = .ok (.ifCond .eq 16, 3) := by decide +kernel
theorem dX12_of_136 : decode cX12_of 136 = .ok (.aload_n 0, 1) := by decide +kernel
theorem dX12_of_137 : decode cX12_of 137 = .ok (.getfield 16, 3) := by decide +kernel
theorem dX12_of_140 : decode cX12_of 140 = .ok (.iload_n 3, 1) := by decide +kernel
theorem dX12_of_141 : decode cX12_of 141 = .ok (.bipush 7, 2) := by decide +kernel
theorem dX12_of_143 : decode cX12_of 143 = .ok (.iadd, 1) := by decide +kernel
theorem dX12_of_144 : decode cX12_of 144 = .ok (.laload, 1) := by decide +kernel
theorem dX12_of_145 : decode cX12_of 145 = .ok (.l2i, 1) := by decide +kernel
theorem dX12_of_146 : decode cX12_of 146 = .ok (.goto 4, 3) := by decide +kernel
theorem dX12_of_149 : decode cX12_of 149 = .ok (.iconst (-1), 1) := by decide +kernel
theorem dX12_of_150 : decode cX12_of 150 = .ok (.ireturn, 1) := by decide +kernel
theorem dX12_of_151 : decode cX12_of 151 = .ok (.aload_n 0, 1) := by decide +kernel
theorem dX12_of_152 : decode cX12_of 152 = .ok (.getfield 16, 3) := by decide +kernel
theorem dX12_of_155 : decode cX12_of 155 = .ok (.iload_n 3, 1) := by decide +kernel
theorem dX12_of_156 : decode cX12_of 156 = .ok (.iconst 2, 1) := by decide +kernel
theorem dX12_of_157 : decode cX12_of 157 = .ok (.iadd, 1) := by decide +kernel
theorem dX12_of_158 : decode cX12_of 158 = .ok (.laload, 1) := by decide +kernel
theorem dX12_of_159 : decode cX12_of 159 = .ok (.ldc2_w 122, 3) := by decide +kernel
theorem dX12_of_162 : decode cX12_of 162 = .ok (.lcmp, 1) := by decide +kernel
theorem dX12_of_163 : decode cX12_of 163 = .ok (.ifCond .ne 16, 3) := by decide +kernel
theorem dX12_of_166 : decode cX12_of 166 = .ok (.aload_n 0, 1) := by decide +kernel
theorem dX12_of_167 : decode cX12_of 167 = .ok (.getfield 16, 3) := by decide +kernel
theorem dX12_of_170 : decode cX12_of 170 = .ok (.iload_n 3, 1) := by decide +kernel
theorem dX12_of_171 : decode cX12_of 171 = .ok (.bipush 9, 2) := by decide +kernel
theorem dX12_of_173 : decode cX12_of 173 = .ok (.iadd, 1) := by decide +kernel
theorem dX12_of_174 : decode cX12_of 174 = .ok (.laload, 1) := by decide +kernel
theorem dX12_of_175 : decode cX12_of 175 = .ok (.l2i, 1) := by decide +kernel
theorem dX12_of_176 : decode cX12_of 176 = .ok (.goto 4, 3) := by decide +kernel
theorem dX12_of_179 : decode cX12_of 179 = .ok (.iconst (-1), 1) := by decide +kernel
theorem dX12_of_180 : decode cX12_of 180 = .ok (.ireturn, 1) := by decide +kernel
theorem dX12_of_181 : decode cX12_of 181 = .ok (.iload 5, 2) := by decide +kernel
theorem dX12_of_183 : decode cX12_of 183 = .ok (.ifCond .eq 16, 3) := by decide +kernel
theorem dX12_of_186 : decode cX12_of 186 = .ok (.aload_n 0, 1) := by decide +kernel
theorem dX12_of_187 : decode cX12_of 187 = .ok (.getfield 16, 3) := by decide +kernel
theorem dX12_of_190 : decode cX12_of 190 = .ok (.iload_n 3, 1) := by decide +kernel
theorem dX12_of_191 : decode cX12_of 191 = .ok (.bipush 14, 2) := by decide +kernel
theorem dX12_of_193 : decode cX12_of 193 = .ok (.iadd, 1) := by decide +kernel
theorem dX12_of_194 : decode cX12_of 194 = .ok (.laload, 1) := by decide +kernel
theorem dX12_of_195 : decode cX12_of 195 = .ok (.l2i, 1) := by decide +kernel
theorem dX12_of_196 : decode cX12_of 196 = .ok (.goto 4, 3) := by decide +kernel
theorem dX12_of_199 : decode cX12_of 199 = .ok (.iconst (-1), 1) := by decide +kernel
theorem dX12_of_200 : decode cX12_of 200 = .ok (.ireturn, 1) := by decide +kernel
theorem dX12_of_201 : decode cX12_of 201 = .ok (.iload 5, 2) := by decide +kernel
theorem dX12_of_203 : decode cX12_of 203 = .ok (.ifCond .eq 41, 3) := by decide +kernel
theorem dX12_of_206 : decode cX12_of 206 = .ok (.aload_n 0, 1) := by decide +kernel
theorem dX12_of_207 : decode cX12_of 207 = .ok (.getfield 16, 3) := by decide +kernel
theorem dX12_of_210 : decode cX12_of 210 = .ok (.iload_n 3, 1) := by decide +kernel
theorem dX12_of_211 : decode cX12_of 211 = .ok (.bipush 16, 2) := by decide +kernel
theorem dX12_of_213 : decode cX12_of 213 = .ok (.iadd, 1) := by decide +kernel
theorem dX12_of_214 : decode cX12_of 214 = .ok (.aload_n 0, 1) := by decide +kernel
theorem dX12_of_215 : decode cX12_of 215 = .ok (.getfield 16, 3) := by decide +kernel
theorem dX12_of_218 : decode cX12_of 218 = .ok (.iload_n 3, 1) := by decide +kernel
theorem dX12_of_219 : decode cX12_of 219 = .ok (.bipush 14, 2) := by decide +kernel
theorem dX12_of_221 : decode cX12_of 221 = .ok (.iadd, 1) := by decide +kernel
theorem dX12_of_222 : decode cX12_of 222 = .ok (.laload, 1) := by decide +kernel
theorem dX12_of_223 : decode cX12_of 223 = .ok (.l2i, 1) := by decide +kernel
theorem dX12_of_224 : decode cX12_of 224 = .ok (.iadd, 1) := by decide +kernel
theorem dX12_of_225 : decode cX12_of 225 = .ok (.laload, 1) := by decide +kernel
theorem dX12_of_226 : decode cX12_of 226 = .ok (.lconst 0, 1) := by decide +kernel
theorem dX12_of_227 : decode cX12_of 227 = .ok (.lcmp, 1) := by decide +kernel
theorem dX12_of_228 : decode cX12_of 228 = .ok (.ifCond .ne 16, 3) := by decide +kernel
theorem dX12_of_231 : decode cX12_of 231 = .ok (.aload_n 0, 1) := by decide +kernel
theorem dX12_of_232 : decode cX12_of 232 = .ok (.getfield 16, 3) := by decide +kernel
theorem dX12_of_235 : decode cX12_of 235 = .ok (.iload_n 3, 1) := by decide +kernel
theorem dX12_of_236 : decode cX12_of 236 = .ok (.bipush 15, 2) := by decide +kernel
theorem dX12_of_238 : decode cX12_of 238 = .ok (.iadd, 1) := by decide +kernel
theorem dX12_of_239 : decode cX12_of 239 = .ok (.laload, 1) := by decide +kernel
theorem dX12_of_240 : decode cX12_of 240 = .ok (.l2i, 1) := by decide +kernel
theorem dX12_of_241 : decode cX12_of 241 = .ok (.goto 4, 3) := by decide +kernel
theorem dX12_of_244 : decode cX12_of 244 = .ok (.iconst (-1), 1) := by decide +kernel
theorem dX12_of_245 : decode cX12_of 245 = .ok (.ireturn, 1) := by decide +kernel
theorem dX12_of_246 : decode cX12_of 246 = .ok (.aload_n 0, 1) := by decide +kernel
theorem dX12_of_247 : decode cX12_of 247 = .ok (.getfield 16, 3) := by decide +kernel
theorem dX12_of_250 : decode cX12_of 250 = .ok (.iload_n 3, 1) := by decide +kernel
theorem dX12_of_251 : decode cX12_of 251 = .ok (.bipush 41, 2) := by decide +kernel
theorem dX12_of_253 : decode cX12_of 253 = .ok (.iadd, 1) := by decide +kernel
theorem dX12_of_254 : decode cX12_of 254 = .ok (.laload, 1) := by decide +kernel
theorem dX12_of_255 : decode cX12_of 255 = .ok (.lconst 0, 1) := by decide +kernel
theorem dX12_of_256 : decode cX12_of 256 = .ok (.lcmp, 1) := by decide +kernel
theorem dX12_of_257 : decode cX12_of 257 = .ok (.ifCond .le 16, 3) := by decide +kernel
theorem dX12_of_260 : decode cX12_of 260 = .ok (.aload_n 0, 1) := by decide +kernel
theorem dX12_of_261 : decode cX12_of 261 = .ok (.getfield 16, 3) := by decide +kernel
theorem dX12_of_264 : decode cX12_of 264 = .ok (.iload_n 3, 1) := by decide +kernel
theorem dX12_of_265 : decode cX12_of 265 = .ok (.bipush 40, 2) := by decide +kernel
theorem dX12_of_267 : decode cX12_of 267 = .ok (.iadd, 1) := by decide +kernel
theorem dX12_of_268 : decode cX12_of 268 = .ok (.laload, 1) := by decide +kernel
theorem dX12_of_269 : decode cX12_of 269 = .ok (.l2i, 1) := by decide +kernel
theorem dX12_of_270 : decode cX12_of 270 = .ok (.goto 4, 3) := by decide +kernel
theorem dX12_of_273 : decode cX12_of 273 = .ok (.iconst (-1), 1) := by decide +kernel
theorem dX12_of_274 : decode cX12_of 274 = .ok (.ireturn, 1) := by decide +kernel
theorem dX12_of_275 : decode cX12_of 275 = .ok (.aload_n 0, 1) := by decide +kernel
theorem dX12_of_276 : decode cX12_of 276 = .ok (.getfield 16, 3) := by decide +kernel
theorem dX12_of_279 : decode cX12_of 279 = .ok (.iload_n 3, 1) := by decide +kernel
theorem dX12_of_280 : decode cX12_of 280 = .ok (.bipush 41, 2) := by decide +kernel
theorem dX12_of_282 : decode cX12_of 282 = .ok (.iadd, 1) := by decide +kernel
theorem dX12_of_283 : decode cX12_of 283 = .ok (.laload, 1) := by decide +kernel
theorem dX12_of_284 : decode cX12_of 284 = .ok (.l2i, 1) := by decide +kernel
theorem dX12_of_285 : decode cX12_of 285 = .ok (.ireturn, 1) := by decide +kernel
theorem dX12_of_286 : decode cX12_of 286 = .ok (.aload_n 0, 1) := by decide +kernel
theorem dX12_of_287 : decode cX12_of 287 = .ok (.getfield 16, 3) := by decide +kernel
theorem dX12_of_290 : decode cX12_of 290 = .ok (.iload_n 3, 1) := by decide +kernel
theorem dX12_of_291 : decode cX12_of 291 = .ok (.bipush 42, 2) := by decide +kernel
theorem dX12_of_293 : decode cX12_of 293 = .ok (.iadd, 1) := by decide +kernel
theorem dX12_of_294 : decode cX12_of 294 = .ok (.laload, 1) := by decide +kernel
theorem dX12_of_295 : decode cX12_of 295 = .ok (.l2i, 1) := by decide +kernel
theorem dX12_of_296 : decode cX12_of 296 = .ok (.ireturn, 1) := by decide +kernel
theorem dX12_of_297 : decode cX12_of 297 = .ok (.iload_n 2, 1) := by decide +kernel
theorem dX12_of_298 : decode cX12_of 298 = .ok (.i2l, 1) := by decide +kernel
theorem dX12_of_299 : decode cX12_of 299 = .ok (.lconst 0, 1) := by decide +kernel
theorem dX12_of_300 : decode cX12_of 300 = .ok (.ldc2_w 135, 3) := by decide +kernel
theorem dX12_of_303 : decode cX12_of 303 = .ok (.invokestatic 83, 3) := by decide +kernel
theorem dX12_of_306 : decode cX12_of 306 = .ok (.ifCond .eq 15, 3) := by decide +kernel
theorem dX12_of_309 : decode cX12_of 309 = .ok (.aload_n 0, 1) := by decide +kernel
theorem dX12_of_310 : decode cX12_of 310 = .ok (.getfield 16, 3) := by decide +kernel
theorem dX12_of_313 : decode cX12_of 313 = .ok (.iload_n 3, 1) := by decide +kernel
theorem dX12_of_314 : decode cX12_of 314 = .ok (.iload_n 2, 1) := by decide +kernel
theorem dX12_of_315 : decode cX12_of 315 = .ok (.iadd, 1) := by decide +kernel
theorem dX12_of_316 : decode cX12_of 316 = .ok (.laload, 1) := by decide +kernel
theorem dX12_of_317 : decode cX12_of 317 = .ok (.l2i, 1) := by decide +kernel
theorem dX12_of_318 : decode cX12_of 318 = .ok (.goto 4, 3) := by decide +kernel
theorem dX12_of_321 : decode cX12_of 321 = .ok (.iconst (-1), 1) := by decide +kernel
theorem dX12_of_322 : decode cX12_of 322 = .ok (.ireturn, 1) := by decide +kernel
theorem dX12_exact_0 : decode cX12_exact 0 = .ok (.aload_n 0, 1) := by decide +kernel
theorem dX12_exact_1 : decode cX12_exact 1 = .ok (.iconst 0, 1) := by decide +kernel
theorem dX12_exact_2 : decode cX12_exact 2 = .ok (.putfield 67, 3) := by decide +kernel
theorem dX12_exact_5 : decode cX12_exact 5 = .ok (.aload_n 0, 1) := by decide +kernel
theorem dX12_exact_6 : decode cX12_exact 6 = .ok (.iload_n 1, 1) := by decide +kernel
theorem dX12_exact_7 : decode cX12_exact 7 = .ok (.invokevirtual 142, 3) := by decide +kernel
theorem dX12_exact_10 : decode cX12_exact 10 = .ok (.ifCond .ne 7, 3) := by decide +kernel
theorem dX12_exact_13 : decode cX12_exact 13 = .ok (.ldc2_w 291, 3) := by decide +kernel
theorem dX12_exact_16 : decode cX12_exact 16 = .ok (.lreturn, 1) := by decide +kernel
theorem dX12_exact_17 : decode cX12_exact 17 = .ok (.aload_n 0, 1) := by decide +kernel
theorem dX12_exact_18 : decode cX12_exact 18 = .ok (.iload_n 1, 1) := by decide +kernel
theorem dX12_exact_19 : decode cX12_exact 19 = .ok (.invokevirtual 90, 3) := by decide +kernel
theorem dX12_exact_22 : decode cX12_exact 22 = .ok (.ifCond .ne 27, 3) := by decide +kernel
theorem dX12_exact_25 : decode cX12_exact 25 = .ok (.iload_n 2, 1) := by decide +kernel
theorem dX12_exact_26 : decode cX12_exact 26 = .ok (.iconst 3, 1) := by decide +kernel
theorem dX12_exact_27 : decode cX12_exact 27 = .ok (.if_icmp .ne 18, 3) := by decide +kernel
theorem dX12_exact_30 : decode cX12_exact 30 = .ok (.aload_n 0, 1) := by decide +kernel
theorem dX12_exact_31 : decode cX12_exact 31 = .ok (.getfield 16, 3) := by decide +kernel
theorem dX12_exact_34 : decode cX12_exact 34 = .ok (.iload_n 1, 1) := by decide +kernel
theorem dX12_exact_35 : decode cX12_exact 35 = .ok (.invokestatic 87, 3) := by decide +kernel
theorem dX12_exact_38 : decode cX12_exact 38 = .ok (.bipush 11, 2) := by decide +kernel
theorem dX12_exact_40 : decode cX12_exact 40 = .ok (.iadd, 1) := by decide +kernel
theorem dX12_exact_41 : decode cX12_exact 41 = .ok (.laload, 1) := by decide +kernel
theorem dX12_exact_42 : decode cX12_exact 42 = .ok (.goto 6, 3) := by decide +kernel
theorem dX12_exact_45 : decode cX12_exact 45 = .ok (.ldc2_w 291, 3) := by decide +kernel
theorem dX12_exact_48 : decode cX12_exact 48 = .ok (.lreturn, 1) := by decide +kernel
theorem dX12_exact_49 : decode cX12_exact 49 = .ok (.iload_n 2, 1) := by decide +kernel
theorem dX12_exact_50 : decode cX12_exact 50 = .ok (.ifCond .ne 11, 3) := by decide +kernel
theorem dX12_exact_53 : decode cX12_exact 53 = .ok (.aload_n 0, 1) := by decide +kernel
theorem dX12_exact_54 : decode cX12_exact 54 = .ok (.iload_n 1, 1) := by decide +kernel
theorem dX12_exact_55 : decode cX12_exact 55 = .ok (.invokevirtual 98, 3) := by decide +kernel
theorem dX12_exact_58 : decode cX12_exact 58 = .ok (.goto 32, 3) := by decide +kernel
theorem dX12_exact_61 : decode cX12_exact 61 = .ok (.iload_n 2, 1) := by decide +kernel
theorem dX12_exact_62 : decode cX12_exact 62 = .ok (.iconst 1, 1) := by decide +kernel
theorem dX12_exact_63 : decode cX12_exact 63 = .ok (.if_icmp .ne 11, 3) := by decide +kernel
theorem dX12_exact_66 : decode cX12_exact 66 = .ok (.aload_n 0, 1) := by decide +kernel
theorem dX12_exact_67 : decode cX12_exact 67 = .ok (.iload_n 1, 1) := by decide +kernel
theorem dX12_exact_68 : decode cX12_exact 68 = .ok (.invokevirtual 167, 3) := by decide +kernel
theorem dX12_exact_71 : decode cX12_exact 71 = .ok (.goto 19, 3) := by decide +kernel
theorem dX12_exact_74 : decode cX12_exact 74 = .ok (.iload_n 2, 1) := by decide +kernel
theorem dX12_exact_75 : decode cX12_exact 75 = .ok (.iconst 2, 1) := by decide +kernel
theorem dX12_exact_76 : decode cX12_exact 76 = .ok (.if_icmp .ne 11, 3) := by decide +kernel
theorem dX12_exact_79 : decode cX12_exact 79 = .ok (.aload_n 0, 1) := by decide +kernel
theorem dX12_exact_80 : decode cX12_exact 80 = .ok (.iload_n 1, 1) := by decide +kernel
theorem dX12_exact_81 : decode cX12_exact 81 = .ok (.invokevirtual 119, 3) := by decide +kernel
theorem dX12_exact_84 : decode cX12_exact 84 = .ok (.goto 6, 3) := by decide +kernel
theorem dX12_exact_87 : decode cX12_exact 87 = .ok (.ldc2_w 291, 3) := by decide +kernel
theorem dX12_exact_90 : decode cX12_exact 90 = .ok (.lreturn, 1) := by decide +kernel
theorem dX12_time_0 : decode cX12_time 0 = .ok (.aload_n 0, 1) := by decide +kernel
theorem dX12_time_1 : decode cX12_time 1 = .ok (.iconst 0, 1) := by decide +kernel
theorem dX12_time_2 : decode cX12_time 2 = .ok (.putfield 67, 3) := by decide +kernel
theorem dX12_time_5 : decode cX12_time 5 = .ok (.aload_n 0, 1) := by decide +kernel
theorem dX12_time_6 : decode cX12_time 6 = .ok (.invokevirtual 105, 3) := by decide +kernel
theorem dX12_time_9 : decode cX12_time 9 = .ok (.lstore_n 2, 1) := by decide +kernel
theorem dX12_time_10 : decode cX12_time 10 = .ok (.iload_n 1, 1) := by decide +kernel
theorem dX12_time_11 : decode cX12_time 11 = .ok (.tableswitch 88 0 3 #[29, 53, 79, 81], 29) := by decide +kernel
theorem dX12_time_40 : decode cX12_time 40 = .ok (.lload_n 2, 1) := by decide +kernel
theorem dX12_time_41 : decode cX12_time 41 = .ok (.lconst 0, 1) := by decide +kernel
theorem dX12_time_42 : decode cX12_time 42 = .ok (.lcmp, 1) := by decide +kernel
theorem dX12_time_43 : decode cX12_time 43 = .ok (.ifCond .ne 12, 3) := by decide +kernel
theorem dX12_time_46 : decode cX12_time 46 = .ok (.aload_n 0, 1) := by decide +kernel
theorem dX12_time_47 : decode cX12_time 47 = .ok (.getfield 16, 3) := by decide +kernel
theorem dX12_time_50 : decode cX12_time 50 = .ok (.iconst 2, 1) := by decide +kernel
theorem dX12_time_51 : decode cX12_time 51 = .ok (.laload, 1) := by decide +kernel
theorem dX12_time_52 : decode cX12_time 52 = .ok (.goto 11, 3) := by decide +kernel
theorem dX12_time_55 : decode cX12_time 55 = .ok (.aload_n 0, 1) := by decide +kernel
theorem dX12_time_56 : decode cX12_time 56 = .ok (.invokevirtual 101, 3) := by decide +kernel
theorem dX12_time_59 : decode cX12_time 59 = .ok (.lload_n 2, 1) := by decide +kernel
theorem dX12_time_60 : decode cX12_time 60 = .ok (.invokestatic 115, 3) := by decide +kernel
theorem dX12_time_63 : decode cX12_time 63 = .ok (.lreturn, 1) := by decide +kernel
theorem dX12_time_64 : decode cX12_time 64 = .ok (.lload_n 2, 1) := by decide +kernel
theorem dX12_time_65 : decode cX12_time 65 = .ok (.lconst 0, 1) := by decide +kernel
theorem dX12_time_66 : decode cX12_time 66 = .ok (.lcmp, 1) := by decide +kernel
theorem dX12_time_67 : decode cX12_time 67 = .ok (.ifCond .ne 7, 3) := by decide +kernel
theorem dX12_time_70 : decode cX12_time 70 = .ok (.lconst 0, 1) := by decide +kernel
theorem dX12_time_71 : decode cX12_time 71 = .ok (.goto 18, 3) := by decide +kernel
theorem dX12_time_74 : decode cX12_time 74 = .ok (.aload_n 0, 1) := by decide +kernel
theorem dX12_time_75 : decode cX12_time 75 = .ok (.invokevirtual 101, 3) := by decide +kernel
theorem dX12_time_78 : decode cX12_time 78 = .ok (.lload_n 2, 1) := by decide +kernel
theorem dX12_time_79 : decode cX12_time 79 = .ok (.aload_n 0, 1) := by decide +kernel
theorem dX12_time_80 : decode cX12_time 80 = .ok (.invokevirtual 101, 3) := by decide +kernel
theorem dX12_time_83 : decode cX12_time 83 = .ok (.lload_n 2, 1) := by decide +kernel
theorem dX12_time_84 : decode cX12_time 84 = .ok (.invokestatic 115, 3) := by decide +kernel
theorem dX12_time_87 : decode cX12_time 87 = .ok (.lmul, 1) := by decide +kernel
theorem dX12_time_88 : decode cX12_time 88 = .ok (.lsub, 1) := by decide +kernel
theorem dX12_time_89 : decode cX12_time 89 = .ok (.lreturn, 1) := by decide +kernel
theorem dX12_time_90 : decode cX12_time 90 = .ok (.lload_n 2, 1) := by decide +kernel
theorem dX12_time_91 : decode cX12_time 91 = .ok (.lreturn, 1) := by decide +kernel
theorem dX12_time_92 : decode cX12_time 92 = .ok (.aload_n 0, 1) := by decide +kernel
theorem dX12_time_93 : decode cX12_time 93 = .ok (.getfield 16, 3) := by decide +kernel
theorem dX12_time_96 : decode cX12_time 96 = .ok (.iconst 1, 1) := by decide +kernel
theorem dX12_time_97 : decode cX12_time 97 = .ok (.laload, 1) := by decide +kernel
theorem dX12_time_98 : decode cX12_time 98 = .ok (.lreturn, 1) := by decide +kernel
theorem dX12_time_99 : decode cX12_time 99 = .ok (.ldc2_w 291, 3) := by decide +kernel
theorem dX12_time_102 : decode cX12_time 102 = .ok (.lreturn, 1) := by decide +kernel
theorem dX12_eligible_0 : decode cX12_eligible 0 = .ok (.aload_n 0, 1) := by decide +kernel
theorem dX12_eligible_1 : decode cX12_eligible 1 = .ok (.iconst 0, 1) := by decide +kernel
theorem dX12_eligible_2 : decode cX12_eligible 2 = .ok (.putfield 67, 3) := by decide +kernel
theorem dX12_eligible_5 : decode cX12_eligible 5 = .ok (.iconst 0, 1) := by decide +kernel
theorem dX12_eligible_6 : decode cX12_eligible 6 = .ok (.istore_n 1, 1) := by decide +kernel
theorem dX12_eligible_7 : decode cX12_eligible 7 = .ok (.iconst 0, 1) := by decide +kernel
theorem dX12_eligible_8 : decode cX12_eligible 8 = .ok (.istore_n 2, 1) := by decide +kernel
theorem dX12_eligible_9 : decode cX12_eligible 9 = .ok (.iload_n 2, 1) := by decide +kernel
theorem dX12_eligible_10 : decode cX12_eligible 10 = .ok (.i2l, 1) := by decide +kernel
theorem dX12_eligible_11 : decode cX12_eligible 11 = .ok (.aload_n 0, 1) := by decide +kernel
theorem dX12_eligible_12 : decode cX12_eligible 12 = .ok (.getfield 16, 3) := by decide +kernel
theorem dX12_eligible_15 : decode cX12_eligible 15 = .ok (.iconst 0, 1) := by decide +kernel
theorem dX12_eligible_16 : decode cX12_eligible 16 = .ok (.laload, 1) := by decide +kernel
theorem dX12_eligible_17 : decode cX12_eligible 17 = .ok (.lcmp, 1) := by decide +kernel
theorem dX12_eligible_18 : decode cX12_eligible 18 = .ok (.ifCond .ge 27, 3) := by decide +kernel
theorem dX12_eligible_21 : decode cX12_eligible 21 = .ok (.iload_n 1, 1) := by decide +kernel
theorem dX12_eligible_22 : decode cX12_eligible 22 = .ok (.aload_n 0, 1) := by decide +kernel
theorem dX12_eligible_23 : decode cX12_eligible 23 = .ok (.iload_n 2, 1) := by decide +kernel
theorem dX12_eligible_24 : decode cX12_eligible 24 = .ok (.invokevirtual 244, 3) := by decide +kernel
theorem dX12_eligible_27 : decode cX12_eligible 27 = .ok (.ifCond .eq 9, 3) := by decide +kernel
theorem dX12_eligible_30 : decode cX12_eligible 30 = .ok (.iconst 1, 1) := by decide +kernel
theorem dX12_eligible_31 : decode cX12_eligible 31 = .ok (.iload_n 2, 1) := by decide +kernel
theorem dX12_eligible_32 : decode cX12_eligible 32 = .ok (.ishl, 1) := by decide +kernel
theorem dX12_eligible_33 : decode cX12_eligible 33 = .ok (.goto 4, 3) := by decide +kernel
theorem dX12_eligible_36 : decode cX12_eligible 36 = .ok (.iconst 0, 1) := by decide +kernel
theorem dX12_eligible_37 : decode cX12_eligible 37 = .ok (.ior, 1) := by decide +kernel
theorem dX12_eligible_38 : decode cX12_eligible 38 = .ok (.istore_n 1, 1) := by decide +kernel
theorem dX12_eligible_39 : decode cX12_eligible 39 = .ok (.iinc 2 1, 3) := by decide +kernel
theorem dX12_eligible_42 : decode cX12_eligible 42 = .ok (.goto (-33), 3) := by decide +kernel
theorem dX12_eligible_45 : decode cX12_eligible 45 = .ok (.iload_n 1, 1) := by decide +kernel
theorem dX12_eligible_46 : decode cX12_eligible 46 = .ok (.ireturn, 1) := by decide +kernel
theorem dX12_aheadOf_0 : decode cX12_aheadOf 0 = .ok (.iconst 0, 1) := by decide +kernel
theorem dX12_aheadOf_1 : decode cX12_aheadOf 1 = .ok (.istore_n 2, 1) := by decide +kernel
theorem dX12_aheadOf_2 : decode cX12_aheadOf 2 = .ok (.iconst 0, 1) := by decide +kernel
theorem dX12_aheadOf_3 : decode cX12_aheadOf 3 = .ok (.istore_n 3, 1) := by decide +kernel
theorem dX12_aheadOf_4 : decode cX12_aheadOf 4 = .ok (.iload_n 3, 1) := by decide +kernel
theorem dX12_aheadOf_5 : decode cX12_aheadOf 5 = .ok (.i2l, 1) := by decide +kernel
theorem dX12_aheadOf_6 : decode cX12_aheadOf 6 = .ok (.aload_n 0, 1) := by decide +kernel
theorem dX12_aheadOf_7 : decode cX12_aheadOf 7 = .ok (.getfield 16, 3) := by decide +kernel
theorem dX12_aheadOf_10 : decode cX12_aheadOf 10 = .ok (.iconst 0, 1) := by decide +kernel
theorem dX12_aheadOf_11 : decode cX12_aheadOf 11 = .ok (.laload, 1) := by decide +kernel
theorem dX12_aheadOf_12 : decode cX12_aheadOf 12 = .ok (.lcmp, 1) := by decide +kernel
theorem dX12_aheadOf_13 : decode cX12_aheadOf 13 = .ok (.ifCond .ge 63, 3) := by decide +kernel
theorem dX12_aheadOf_16 : decode cX12_aheadOf 16 = .ok (.iload_n 2, 1) := by decide +kernel
theorem dX12_aheadOf_17 : decode cX12_aheadOf 17 = .ok (.iload_n 3, 1) := by decide +kernel
theorem dX12_aheadOf_18 : decode cX12_aheadOf 18 = .ok (.iload_n 1, 1) := by decide +kernel
theorem dX12_aheadOf_19 : decode cX12_aheadOf 19 = .ok (.if_icmp .eq 48, 3) := by decide +kernel
theorem dX12_aheadOf_22 : decode cX12_aheadOf 22 = .ok (.aload_n 0, 1) := by decide +kernel
theorem dX12_aheadOf_23 : decode cX12_aheadOf 23 = .ok (.iload_n 3, 1) := by decide +kernel
theorem dX12_aheadOf_24 : decode cX12_aheadOf 24 = .ok (.invokevirtual 244, 3) := by decide +kernel
theorem dX12_aheadOf_27 : decode cX12_aheadOf 27 = .ok (.ifCond .eq 40, 3) := by decide +kernel
theorem dX12_aheadOf_30 : decode cX12_aheadOf 30 = .ok (.aload_n 0, 1) := by decide +kernel
theorem dX12_aheadOf_31 : decode cX12_aheadOf 31 = .ok (.iload_n 3, 1) := by decide +kernel
theorem dX12_aheadOf_32 : decode cX12_aheadOf 32 = .ok (.invokevirtual 167, 3) := by decide +kernel
theorem dX12_aheadOf_35 : decode cX12_aheadOf 35 = .ok (.aload_n 0, 1) := by decide +kernel
theorem dX12_aheadOf_36 : decode cX12_aheadOf 36 = .ok (.iload_n 1, 1) := by decide +kernel
theorem dX12_aheadOf_37 : decode cX12_aheadOf 37 = .ok (.invokevirtual 167, 3) := by decide +kernel
theorem dX12_aheadOf_40 : decode cX12_aheadOf 40 = .ok (.lcmp, 1) := by decide +kernel
theorem dX12_aheadOf_41 : decode cX12_aheadOf 41 = .ok (.ifCond .lt 22, 3) := by decide +kernel
theorem dX12_aheadOf_44 : decode cX12_aheadOf 44 = .ok (.aload_n 0, 1) := by decide +kernel
theorem dX12_aheadOf_45 : decode cX12_aheadOf 45 = .ok (.iload_n 3, 1) := by decide +kernel
theorem dX12_aheadOf_46 : decode cX12_aheadOf 46 = .ok (.invokevirtual 167, 3) := by decide +kernel
theorem dX12_aheadOf_49 : decode cX12_aheadOf 49 = .ok (.aload_n 0, 1) := by decide +kernel
theorem dX12_aheadOf_50 : decode cX12_aheadOf 50 = .ok (.iload_n 1, 1) := by decide +kernel
theorem dX12_aheadOf_51 : decode cX12_aheadOf 51 = .ok (.invokevirtual 167, 3) := by decide +kernel
theorem dX12_aheadOf_54 : decode cX12_aheadOf 54 = .ok (.lcmp, 1) := by decide +kernel
theorem dX12_aheadOf_55 : decode cX12_aheadOf 55 = .ok (.ifCond .ne 12, 3) := by decide +kernel
theorem dX12_aheadOf_58 : decode cX12_aheadOf 58 = .ok (.iload_n 3, 1) := by decide +kernel
theorem dX12_aheadOf_59 : decode cX12_aheadOf 59 = .ok (.iload_n 1, 1) := by decide +kernel
theorem dX12_aheadOf_60 : decode cX12_aheadOf 60 = .ok (.if_icmp .ge 7, 3) := by decide +kernel
theorem dX12_aheadOf_63 : decode cX12_aheadOf 63 = .ok (.iconst 1, 1) := by decide +kernel
theorem dX12_aheadOf_64 : decode cX12_aheadOf 64 = .ok (.goto 4, 3) := by decide +kernel
theorem dX12_aheadOf_67 : decode cX12_aheadOf 67 = .ok (.iconst 0, 1) := by decide +kernel
theorem dX12_aheadOf_68 : decode cX12_aheadOf 68 = .ok (.iadd, 1) := by decide +kernel
theorem dX12_aheadOf_69 : decode cX12_aheadOf 69 = .ok (.istore_n 2, 1) := by decide +kernel
theorem dX12_aheadOf_70 : decode cX12_aheadOf 70 = .ok (.iinc 3 1, 3) := by decide +kernel
theorem dX12_aheadOf_73 : decode cX12_aheadOf 73 = .ok (.goto (-69), 3) := by decide +kernel
theorem dX12_aheadOf_76 : decode cX12_aheadOf 76 = .ok (.iload_n 2, 1) := by decide +kernel
theorem dX12_aheadOf_77 : decode cX12_aheadOf 77 = .ok (.ireturn, 1) := by decide +kernel
theorem dX12_earliest_0 : decode cX12_earliest 0 = .ok (.aload_n 0, 1) := by decide +kernel
theorem dX12_earliest_1 : decode cX12_earliest 1 = .ok (.iconst 0, 1) := by decide +kernel
theorem dX12_earliest_2 : decode cX12_earliest 2 = .ok (.putfield 67, 3) := by decide +kernel
theorem dX12_earliest_5 : decode cX12_earliest 5 = .ok (.iconst (-1), 1) := by decide +kernel
theorem dX12_earliest_6 : decode cX12_earliest 6 = .ok (.istore_n 2, 1) := by decide +kernel
theorem dX12_earliest_7 : decode cX12_earliest 7 = .ok (.iconst 0, 1) := by decide +kernel
theorem dX12_earliest_8 : decode cX12_earliest 8 = .ok (.istore_n 3, 1) := by decide +kernel
theorem dX12_earliest_9 : decode cX12_earliest 9 = .ok (.iload_n 3, 1) := by decide +kernel
theorem dX12_earliest_10 : decode cX12_earliest 10 = .ok (.i2l, 1) := by decide +kernel
theorem dX12_earliest_11 : decode cX12_earliest 11 = .ok (.aload_n 0, 1) := by decide +kernel
theorem dX12_earliest_12 : decode cX12_earliest 12 = .ok (.getfield 16, 3) := by decide +kernel
theorem dX12_earliest_15 : decode cX12_earliest 15 = .ok (.iconst 0, 1) := by decide +kernel
theorem dX12_earliest_16 : decode cX12_earliest 16 = .ok (.laload, 1) := by decide +kernel
theorem dX12_earliest_17 : decode cX12_earliest 17 = .ok (.lcmp, 1) := by decide +kernel
theorem dX12_earliest_18 : decode cX12_earliest 18 = .ok (.ifCond .ge 32, 3) := by decide +kernel
theorem dX12_earliest_21 : decode cX12_earliest 21 = .ok (.aload_n 0, 1) := by decide +kernel
theorem dX12_earliest_22 : decode cX12_earliest 22 = .ok (.iload_n 3, 1) := by decide +kernel
theorem dX12_earliest_23 : decode cX12_earliest 23 = .ok (.invokevirtual 244, 3) := by decide +kernel
theorem dX12_earliest_26 : decode cX12_earliest 26 = .ok (.ifCond .eq 16, 3) := by decide +kernel
theorem dX12_earliest_29 : decode cX12_earliest 29 = .ok (.aload_n 0, 1) := by decide +kernel
theorem dX12_earliest_30 : decode cX12_earliest 30 = .ok (.iload_n 3, 1) := by decide +kernel
theorem dX12_earliest_31 : decode cX12_earliest 31 = .ok (.invokevirtual 293, 3) := by decide +kernel
theorem dX12_earliest_34 : decode cX12_earliest 34 = .ok (.iload_n 1, 1) := by decide +kernel
theorem dX12_earliest_35 : decode cX12_earliest 35 = .ok (.if_icmp .ne 7, 3) := by decide +kernel
theorem dX12_earliest_38 : decode cX12_earliest 38 = .ok (.iload_n 3, 1) := by decide +kernel
theorem dX12_earliest_39 : decode cX12_earliest 39 = .ok (.goto 4, 3) := by decide +kernel
theorem dX12_earliest_42 : decode cX12_earliest 42 = .ok (.iload_n 2, 1) := by decide +kernel
theorem dX12_earliest_43 : decode cX12_earliest 43 = .ok (.istore_n 2, 1) := by decide +kernel
theorem dX12_earliest_44 : decode cX12_earliest 44 = .ok (.iinc 3 1, 3) := by decide +kernel
theorem dX12_earliest_47 : decode cX12_earliest 47 = .ok (.goto (-38), 3) := by decide +kernel
theorem dX12_earliest_50 : decode cX12_earliest 50 = .ok (.iload_n 2, 1) := by decide +kernel
theorem dX12_earliest_51 : decode cX12_earliest 51 = .ok (.ireturn, 1) := by decide +kernel
theorem dX12_rank_0 : decode cX12_rank 0 = .ok (.aload_n 0, 1) := by decide +kernel
theorem dX12_rank_1 : decode cX12_rank 1 = .ok (.iconst 0, 1) := by decide +kernel
theorem dX12_rank_2 : decode cX12_rank 2 = .ok (.putfield 67, 3) := by decide +kernel
theorem dX12_rank_5 : decode cX12_rank 5 = .ok (.aload_n 0, 1) := by decide +kernel
theorem dX12_rank_6 : decode cX12_rank 6 = .ok (.iload_n 1, 1) := by decide +kernel
theorem dX12_rank_7 : decode cX12_rank 7 = .ok (.invokevirtual 142, 3) := by decide +kernel
theorem dX12_rank_10 : decode cX12_rank 10 = .ok (.ifCond .eq 11, 3) := by decide +kernel
theorem dX12_rank_13 : decode cX12_rank 13 = .ok (.aload_n 0, 1) := by decide +kernel
theorem dX12_rank_14 : decode cX12_rank 14 = .ok (.iload_n 1, 1) := by decide +kernel
theorem dX12_rank_15 : decode cX12_rank 15 = .ok (.invokevirtual 90, 3) := by decide +kernel
theorem dX12_rank_18 : decode cX12_rank 18 = .ok (.ifCond .ne 5, 3) := by decide +kernel
theorem dX12_rank_21 : decode cX12_rank 21 = .ok (.iconst (-1), 1) := by decide +kernel
theorem dX12_rank_22 : decode cX12_rank 22 = .ok (.ireturn, 1) := by decide +kernel
theorem dX12_rank_23 : decode cX12_rank 23 = .ok (.iconst 0, 1) := by decide +kernel
theorem dX12_rank_24 : decode cX12_rank 24 = .ok (.istore_n 2, 1) := by decide +kernel
theorem dX12_rank_25 : decode cX12_rank 25 = .ok (.iconst 0, 1) := by decide +kernel
theorem dX12_rank_26 : decode cX12_rank 26 = .ok (.istore_n 3, 1) := by decide +kernel
theorem dX12_rank_27 : decode cX12_rank 27 = .ok (.iload_n 3, 1) := by decide +kernel
theorem dX12_rank_28 : decode cX12_rank 28 = .ok (.i2l, 1) := by decide +kernel
theorem dX12_rank_29 : decode cX12_rank 29 = .ok (.aload_n 0, 1) := by decide +kernel
theorem dX12_rank_30 : decode cX12_rank 30 = .ok (.getfield 16, 3) := by decide +kernel
theorem dX12_rank_33 : decode cX12_rank 33 = .ok (.iconst 0, 1) := by decide +kernel
theorem dX12_rank_34 : decode cX12_rank 34 = .ok (.laload, 1) := by decide +kernel
theorem dX12_rank_35 : decode cX12_rank 35 = .ok (.lcmp, 1) := by decide +kernel
theorem dX12_rank_36 : decode cX12_rank 36 = .ok (.ifCond .ge 58, 3) := by decide +kernel
theorem dX12_rank_39 : decode cX12_rank 39 = .ok (.iload_n 2, 1) := by decide +kernel
theorem dX12_rank_40 : decode cX12_rank 40 = .ok (.aload_n 0, 1) := by decide +kernel
theorem dX12_rank_41 : decode cX12_rank 41 = .ok (.iload_n 3, 1) := by decide +kernel
theorem dX12_rank_42 : decode cX12_rank 42 = .ok (.invokevirtual 90, 3) := by decide +kernel
theorem dX12_rank_45 : decode cX12_rank 45 = .ok (.ifCond .eq 40, 3) := by decide +kernel
theorem dX12_rank_48 : decode cX12_rank 48 = .ok (.aload_n 0, 1) := by decide +kernel
theorem dX12_rank_49 : decode cX12_rank 49 = .ok (.iload_n 3, 1) := by decide +kernel
theorem dX12_rank_50 : decode cX12_rank 50 = .ok (.invokevirtual 98, 3) := by decide +kernel
theorem dX12_rank_53 : decode cX12_rank 53 = .ok (.aload_n 0, 1) := by decide +kernel
theorem dX12_rank_54 : decode cX12_rank 54 = .ok (.iload_n 1, 1) := by decide +kernel
theorem dX12_rank_55 : decode cX12_rank 55 = .ok (.invokevirtual 98, 3) := by decide +kernel
theorem dX12_rank_58 : decode cX12_rank 58 = .ok (.lcmp, 1) := by decide +kernel
theorem dX12_rank_59 : decode cX12_rank 59 = .ok (.ifCond .lt 22, 3) := by decide +kernel
theorem dX12_rank_62 : decode cX12_rank 62 = .ok (.aload_n 0, 1) := by decide +kernel
theorem dX12_rank_63 : decode cX12_rank 63 = .ok (.iload_n 3, 1) := by decide +kernel
theorem dX12_rank_64 : decode cX12_rank 64 = .ok (.invokevirtual 98, 3) := by decide +kernel
theorem dX12_rank_67 : decode cX12_rank 67 = .ok (.aload_n 0, 1) := by decide +kernel
theorem dX12_rank_68 : decode cX12_rank 68 = .ok (.iload_n 1, 1) := by decide +kernel
theorem dX12_rank_69 : decode cX12_rank 69 = .ok (.invokevirtual 98, 3) := by decide +kernel
theorem dX12_rank_72 : decode cX12_rank 72 = .ok (.lcmp, 1) := by decide +kernel
theorem dX12_rank_73 : decode cX12_rank 73 = .ok (.ifCond .ne 12, 3) := by decide +kernel
theorem dX12_rank_76 : decode cX12_rank 76 = .ok (.iload_n 3, 1) := by decide +kernel
theorem dX12_rank_77 : decode cX12_rank 77 = .ok (.iload_n 1, 1) := by decide +kernel
theorem dX12_rank_78 : decode cX12_rank 78 = .ok (.if_icmp .ge 7, 3) := by decide +kernel
theorem dX12_rank_81 : decode cX12_rank 81 = .ok (.iconst 1, 1) := by decide +kernel
theorem dX12_rank_82 : decode cX12_rank 82 = .ok (.goto 4, 3) := by decide +kernel
theorem dX12_rank_85 : decode cX12_rank 85 = .ok (.iconst 0, 1) := by decide +kernel
theorem dX12_rank_86 : decode cX12_rank 86 = .ok (.iadd, 1) := by decide +kernel
theorem dX12_rank_87 : decode cX12_rank 87 = .ok (.istore_n 2, 1) := by decide +kernel
theorem dX12_rank_88 : decode cX12_rank 88 = .ok (.iinc 3 1, 3) := by decide +kernel
theorem dX12_rank_91 : decode cX12_rank 91 = .ok (.goto (-64), 3) := by decide +kernel
theorem dX12_rank_94 : decode cX12_rank 94 = .ok (.iload_n 2, 1) := by decide +kernel
theorem dX12_rank_95 : decode cX12_rank 95 = .ok (.ireturn, 1) := by decide +kernel
theorem dX12_logAt_0 : decode cX12_logAt 0 = .ok (.aload_n 0, 1) := by decide +kernel
theorem dX12_logAt_1 : decode cX12_logAt 1 = .ok (.getfield 16, 3) := by decide +kernel
theorem dX12_logAt_4 : decode cX12_logAt 4 = .ok (.iconst 1, 1) := by decide +kernel
theorem dX12_logAt_5 : decode cX12_logAt 5 = .ok (.laload, 1) := by decide +kernel
theorem dX12_logAt_6 : decode cX12_logAt 6 = .ok (.aload_n 0, 1) := by decide +kernel
theorem dX12_logAt_7 : decode cX12_logAt 7 = .ok (.getfield 16, 3) := by decide +kernel
theorem dX12_logAt_10 : decode cX12_logAt 10 = .ok (.iconst 5, 1) := by decide +kernel
theorem dX12_logAt_11 : decode cX12_logAt 11 = .ok (.laload, 1) := by decide +kernel
theorem dX12_logAt_12 : decode cX12_logAt 12 = .ok (.lsub, 1) := by decide +kernel
theorem dX12_logAt_13 : decode cX12_logAt 13 = .ok (.lstore_n 3, 1) := by decide +kernel
theorem dX12_logAt_14 : decode cX12_logAt 14 = .ok (.lload_n 1, 1) := by decide +kernel
theorem dX12_logAt_15 : decode cX12_logAt 15 = .ok (.lload_n 3, 1) := by decide +kernel
theorem dX12_logAt_16 : decode cX12_logAt 16 = .ok (.aload_n 0, 1) := by decide +kernel
theorem dX12_logAt_17 : decode cX12_logAt 17 = .ok (.getfield 16, 3) := by decide +kernel
theorem dX12_logAt_20 : decode cX12_logAt 20 = .ok (.iconst 1, 1) := by decide +kernel
theorem dX12_logAt_21 : decode cX12_logAt 21 = .ok (.laload, 1) := by decide +kernel
theorem dX12_logAt_22 : decode cX12_logAt 22 = .ok (.lconst 1, 1) := by decide +kernel
theorem dX12_logAt_23 : decode cX12_logAt 23 = .ok (.lsub, 1) := by decide +kernel
theorem dX12_logAt_24 : decode cX12_logAt 24 = .ok (.invokestatic 83, 3) := by decide +kernel
theorem dX12_logAt_27 : decode cX12_logAt 27 = .ok (.ifCond .eq 16, 3) := by decide +kernel
theorem dX12_logAt_30 : decode cX12_logAt 30 = .ok (.sipush 522, 3) := by decide +kernel
theorem dX12_logAt_33 : decode cX12_logAt 33 = .ok (.iconst 3, 1) := by decide +kernel
theorem dX12_logAt_34 : decode cX12_logAt 34 = .ok (.lload_n 1, 1) := by decide +kernel
theorem dX12_logAt_35 : decode cX12_logAt 35 = .ok (.lload_n 3, 1) := by decide +kernel
theorem dX12_logAt_36 : decode cX12_logAt 36 = .ok (.lsub, 1) := by decide +kernel
theorem dX12_logAt_37 : decode cX12_logAt 37 = .ok (.l2i, 1) := by decide +kernel
theorem dX12_logAt_38 : decode cX12_logAt 38 = .ok (.imul, 1) := by decide +kernel
theorem dX12_logAt_39 : decode cX12_logAt 39 = .ok (.iadd, 1) := by decide +kernel
theorem dX12_logAt_40 : decode cX12_logAt 40 = .ok (.goto 4, 3) := by decide +kernel
theorem dX12_logAt_43 : decode cX12_logAt 43 = .ok (.iconst (-1), 1) := by decide +kernel
theorem dX12_logAt_44 : decode cX12_logAt 44 = .ok (.ireturn, 1) := by decide +kernel
theorem dX12_ran_0 : decode cX12_ran 0 = .ok (.aload_n 0, 1) := by decide +kernel
theorem dX12_ran_1 : decode cX12_ran 1 = .ok (.iconst 0, 1) := by decide +kernel
theorem dX12_ran_2 : decode cX12_ran 2 = .ok (.putfield 67, 3) := by decide +kernel
theorem dX12_ran_5 : decode cX12_ran 5 = .ok (.aload_n 0, 1) := by decide +kernel
theorem dX12_ran_6 : decode cX12_ran 6 = .ok (.iload_n 1, 1) := by decide +kernel
theorem dX12_ran_7 : decode cX12_ran 7 = .ok (.i2l, 1) := by decide +kernel
theorem dX12_ran_8 : decode cX12_ran 8 = .ok (.invokevirtual 296, 3) := by decide +kernel
theorem dX12_ran_11 : decode cX12_ran 11 = .ok (.istore_n 2, 1) := by decide +kernel
theorem dX12_ran_12 : decode cX12_ran 12 = .ok (.iload_n 2, 1) := by decide +kernel
theorem dX12_ran_13 : decode cX12_ran 13 = .ok (.iconst (-1), 1) := by decide +kernel
theorem dX12_ran_14 : decode cX12_ran 14 = .ok (.if_icmp .ne 7, 3) := by decide +kernel
theorem dX12_ran_17 : decode cX12_ran 17 = .ok (.iconst (-1), 1) := by decide +kernel
theorem dX12_ran_18 : decode cX12_ran 18 = .ok (.goto 10, 3) := by decide +kernel
theorem dX12_ran_21 : decode cX12_ran 21 = .ok (.aload_n 0, 1) := by decide +kernel
theorem dX12_ran_22 : decode cX12_ran 22 = .ok (.getfield 16, 3) := by decide +kernel
theorem dX12_ran_25 : decode cX12_ran 25 = .ok (.iload_n 2, 1) := by decide +kernel
theorem dX12_ran_26 : decode cX12_ran 26 = .ok (.laload, 1) := by decide +kernel
theorem dX12_ran_27 : decode cX12_ran 27 = .ok (.l2i, 1) := by decide +kernel
theorem dX12_ran_28 : decode cX12_ran 28 = .ok (.ireturn, 1) := by decide +kernel
theorem dX12_areKept_0 : decode cX12_areKept 0 = .ok (.iload_n 1, 1) := by decide +kernel
theorem dX12_areKept_1 : decode cX12_areKept 1 = .ok (.iload_n 2, 1) := by decide +kernel
theorem dX12_areKept_2 : decode cX12_areKept 2 = .ok (.if_icmp .eq 30, 3) := by decide +kernel
theorem dX12_areKept_5 : decode cX12_areKept 5 = .ok (.iload_n 1, 1) := by decide +kernel
theorem dX12_areKept_6 : decode cX12_areKept 6 = .ok (.iload_n 2, 1) := by decide +kernel
theorem dX12_areKept_7 : decode cX12_areKept 7 = .ok (.if_icmp .ge 29, 3) := by decide +kernel
theorem dX12_areKept_10 : decode cX12_areKept 10 = .ok (.aload_n 0, 1) := by decide +kernel
theorem dX12_areKept_11 : decode cX12_areKept 11 = .ok (.iload_n 1, 1) := by decide +kernel
theorem dX12_areKept_12 : decode cX12_areKept 12 = .ok (.i2l, 1) := by decide +kernel
theorem dX12_areKept_13 : decode cX12_areKept 13 = .ok (.invokevirtual 296, 3) := by decide +kernel
theorem dX12_areKept_16 : decode cX12_areKept 16 = .ok (.iconst (-1), 1) := by decide +kernel
theorem dX12_areKept_17 : decode cX12_areKept 17 = .ok (.if_icmp .eq 19, 3) := by decide +kernel
theorem dX12_areKept_20 : decode cX12_areKept 20 = .ok (.aload_n 0, 1) := by decide +kernel
theorem dX12_areKept_21 : decode cX12_areKept 21 = .ok (.iload_n 2, 1) := by decide +kernel
theorem dX12_areKept_22 : decode cX12_areKept 22 = .ok (.i2l, 1) := by decide +kernel
theorem dX12_areKept_23 : decode cX12_areKept 23 = .ok (.lconst 1, 1) := by decide +kernel
theorem dX12_areKept_24 : decode cX12_areKept 24 = .ok (.lsub, 1) := by decide +kernel
theorem dX12_areKept_25 : decode cX12_areKept 25 = .ok (.invokevirtual 296, 3) := by decide +kernel
theorem dX12_areKept_28 : decode cX12_areKept 28 = .ok (.iconst (-1), 1) := by decide +kernel
theorem dX12_areKept_29 : decode cX12_areKept 29 = .ok (.if_icmp .eq 7, 3) := by decide +kernel
theorem dX12_areKept_32 : decode cX12_areKept 32 = .ok (.iconst 1, 1) := by decide +kernel
theorem dX12_areKept_33 : decode cX12_areKept 33 = .ok (.goto 4, 3) := by decide +kernel
theorem dX12_areKept_36 : decode cX12_areKept 36 = .ok (.iconst 0, 1) := by decide +kernel
theorem dX12_areKept_37 : decode cX12_areKept 37 = .ok (.ireturn, 1) := by decide +kernel
theorem dX12_service_0 : decode cX12_service 0 = .ok (.aload_n 0, 1) := by decide +kernel
theorem dX12_service_1 : decode cX12_service 1 = .ok (.iconst 0, 1) := by decide +kernel
