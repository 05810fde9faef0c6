theorem d_Tu_around_0 : decode prog_11_method_9_code 0 = .ok (.iload_n 1, 1) := by decide +kernel
theorem d_Tu_around_1 : decode prog_11_method_9_code 1 = .ok (.ifCond .ge 10, 3) := by decide +kernel
theorem d_Tu_around_4 : decode prog_11_method_9_code 4 = .ok (.iload_n 1, 1) := by decide +kernel
theorem d_Tu_around_5 : decode prog_11_method_9_code 5 = .ok (.aload_n 0, 1) := by decide +kernel
theorem d_Tu_around_6 : decode prog_11_method_9_code 6 = .ok (.getfield 36, 3) := by decide +kernel
theorem d_Tu_around_9 : decode prog_11_method_9_code 9 = .ok (.iadd, 1) := by decide +kernel
theorem d_Tu_around_10 : decode prog_11_method_9_code 10 = .ok (.ireturn, 1) := by decide +kernel
theorem d_Tu_around_11 : decode prog_11_method_9_code 11 = .ok (.iload_n 1, 1) := by decide +kernel
theorem d_Tu_around_12 : decode prog_11_method_9_code 12 = .ok (.aload_n 0, 1) := by decide +kernel
theorem d_Tu_around_13 : decode prog_11_method_9_code 13 = .ok (.getfield 36, 3) := by decide +kernel
theorem d_Tu_around_16 : decode prog_11_method_9_code 16 = .ok (.if_icmp .ge 7, 3) := by decide +kernel
theorem d_Tu_around_19 : decode prog_11_method_9_code 19 = .ok (.iload_n 1, 1) := by decide +kernel
theorem d_Tu_around_20 : decode prog_11_method_9_code 20 = .ok (.goto 9, 3) := by decide +kernel
theorem d_Tu_around_23 : decode prog_11_method_9_code 23 = .ok (.iload_n 1, 1) := by decide +kernel
theorem d_Tu_around_24 : decode prog_11_method_9_code 24 = .ok (.aload_n 0, 1) := by decide +kernel
theorem d_Tu_around_25 : decode prog_11_method_9_code 25 = .ok (.getfield 36, 3) := by decide +kernel
theorem d_Tu_around_28 : decode prog_11_method_9_code 28 = .ok (.isub, 1) := by decide +kernel
theorem d_Tu_around_29 : decode prog_11_method_9_code 29 = .ok (.ireturn, 1) := by decide +kernel
theorem d_Tu_notePlaces_0 : decode prog_11_method_10_code 0 = .ok (.aload_n 0, 1) := by decide +kernel
theorem d_Tu_notePlaces_1 : decode prog_11_method_10_code 1 = .ok (.getfield 14, 3) := by decide +kernel
theorem d_Tu_notePlaces_4 : decode prog_11_method_10_code 4 = .ok (.iconst 0, 1) := by decide +kernel
theorem d_Tu_notePlaces_5 : decode prog_11_method_10_code 5 = .ok (.invokevirtual 82, 3) := by decide +kernel
theorem d_Tu_notePlaces_8 : decode prog_11_method_10_code 8 = .ok (.iconst 0, 1) := by decide +kernel
theorem d_Tu_notePlaces_9 : decode prog_11_method_10_code 9 = .ok (.istore_n 2, 1) := by decide +kernel
theorem d_Tu_notePlaces_10 : decode prog_11_method_10_code 10 = .ok (.iload_n 2, 1) := by decide +kernel
theorem d_Tu_notePlaces_11 : decode prog_11_method_10_code 11 = .ok (.aload_n 0, 1) := by decide +kernel
theorem d_Tu_notePlaces_12 : decode prog_11_method_10_code 12 = .ok (.getfield 36, 3) := by decide +kernel
theorem d_Tu_notePlaces_15 : decode prog_11_method_10_code 15 = .ok (.if_icmp .ge 50, 3) := by decide +kernel
theorem d_Tu_notePlaces_18 : decode prog_11_method_10_code 18 = .ok (.aload_n 0, 1) := by decide +kernel
theorem d_Tu_notePlaces_19 : decode prog_11_method_10_code 19 = .ok (.getfield 20, 3) := by decide +kernel
theorem d_Tu_notePlaces_22 : decode prog_11_method_10_code 22 = .ok (.iload_n 2, 1) := by decide +kernel
theorem d_Tu_notePlaces_23 : decode prog_11_method_10_code 23 = .ok (.iaload, 1) := by decide +kernel
theorem d_Tu_notePlaces_24 : decode prog_11_method_10_code 24 = .ok (.istore_n 3, 1) := by decide +kernel
theorem d_Tu_notePlaces_25 : decode prog_11_method_10_code 25 = .ok (.aload_n 0, 1) := by decide +kernel
theorem d_Tu_notePlaces_26 : decode prog_11_method_10_code 26 = .ok (.getfield 24, 3) := by decide +kernel
theorem d_Tu_notePlaces_29 : decode prog_11_method_10_code 29 = .ok (.iload_n 3, 1) := by decide +kernel
theorem d_Tu_notePlaces_30 : decode prog_11_method_10_code 30 = .ok (.iload_n 2, 1) := by decide +kernel
theorem d_Tu_notePlaces_31 : decode prog_11_method_10_code 31 = .ok (.iastore, 1) := by decide +kernel
theorem d_Tu_notePlaces_32 : decode prog_11_method_10_code 32 = .ok (.aload_n 0, 1) := by decide +kernel
theorem d_Tu_notePlaces_33 : decode prog_11_method_10_code 33 = .ok (.getfield 14, 3) := by decide +kernel
theorem d_Tu_notePlaces_36 : decode prog_11_method_10_code 36 = .ok (.aload_n 1, 1) := by decide +kernel
theorem d_Tu_notePlaces_37 : decode prog_11_method_10_code 37 = .ok (.iload_n 3, 1) := by decide +kernel
theorem d_Tu_notePlaces_38 : decode prog_11_method_10_code 38 = .ok (.ifCond .ne 12, 3) := by decide +kernel
theorem d_Tu_notePlaces_41 : decode prog_11_method_10_code 41 = .ok (.aload_n 0, 1) := by decide +kernel
theorem d_Tu_notePlaces_42 : decode prog_11_method_10_code 42 = .ok (.getfield 36, 3) := by decide +kernel
theorem d_Tu_notePlaces_45 : decode prog_11_method_10_code 45 = .ok (.iconst 1, 1) := by decide +kernel
theorem d_Tu_notePlaces_46 : decode prog_11_method_10_code 46 = .ok (.isub, 1) := by decide +kernel
theorem d_Tu_notePlaces_47 : decode prog_11_method_10_code 47 = .ok (.goto 6, 3) := by decide +kernel
theorem d_Tu_notePlaces_50 : decode prog_11_method_10_code 50 = .ok (.iload_n 3, 1) := by decide +kernel
theorem d_Tu_notePlaces_51 : decode prog_11_method_10_code 51 = .ok (.iconst 1, 1) := by decide +kernel
theorem d_Tu_notePlaces_52 : decode prog_11_method_10_code 52 = .ok (.isub, 1) := by decide +kernel
theorem d_Tu_notePlaces_53 : decode prog_11_method_10_code 53 = .ok (.invokevirtual 47, 3) := by decide +kernel
theorem d_Tu_notePlaces_56 : decode prog_11_method_10_code 56 = .ok (.invokevirtual 85, 3) := by decide +kernel
theorem d_Tu_notePlaces_59 : decode prog_11_method_10_code 59 = .ok (.iinc 2 1, 3) := by decide +kernel
theorem d_Tu_notePlaces_62 : decode prog_11_method_10_code 62 = .ok (.goto (-52), 3) := by decide +kernel
theorem d_Tu_notePlaces_65 : decode prog_11_method_10_code 65 = .ok (.return_, 1) := by decide +kernel
theorem d_Lw_law_0 : decode code 0 = .ok (.new 7, 3) := by decide +kernel
theorem d_Lw_law_3 : decode code 3 = .ok (.dup, 1) := by decide +kernel
theorem d_Lw_law_4 : decode code 4 = .ok (.invokespecial 9, 3) := by decide +kernel
theorem d_Lw_law_7 : decode code 7 = .ok (.astore_n 1, 1) := by decide +kernel
theorem d_Lw_law_8 : decode code 8 = .ok (.new 10, 3) := by decide +kernel
theorem d_Lw_law_11 : decode code 11 = .ok (.dup, 1) := by decide +kernel
theorem d_Lw_law_12 : decode code 12 = .ok (.invokespecial 12, 3) := by decide +kernel
theorem d_Lw_law_15 : decode code 15 = .ok (.astore_n 2, 1) := by decide +kernel
theorem d_Lw_law_16 : decode code 16 = .ok (.iconst 0, 1) := by decide +kernel
theorem d_Lw_law_17 : decode code 17 = .ok (.istore_n 3, 1) := by decide +kernel
theorem d_Lw_law_18 : decode code 18 = .ok (.iload_n 3, 1) := by decide +kernel
theorem d_Lw_law_19 : decode code 19 = .ok (.aload_n 0, 1) := by decide +kernel
theorem d_Lw_law_20 : decode code 20 = .ok (.arraylength, 1) := by decide +kernel
theorem d_Lw_law_21 : decode code 21 = .ok (.iconst 5, 1) := by decide +kernel
theorem d_Lw_law_22 : decode code 22 = .ok (.isub, 1) := by decide +kernel
theorem d_Lw_law_23 : decode code 23 = .ok (.if_icmp .gt 803, 3) := by decide +kernel
theorem d_Lw_law_26 : decode code 26 = .ok (.aload_n 0, 1) := by decide +kernel
theorem d_Lw_law_27 : decode code 27 = .ok (.iload_n 3, 1) := by decide +kernel
theorem d_Lw_law_28 : decode code 28 = .ok (.iaload, 1) := by decide +kernel
theorem d_Lw_law_29 : decode code 29 = .ok (.bipush 31, 2) := by decide +kernel
theorem d_Lw_law_31 : decode code 31 = .ok (.iand, 1) := by decide +kernel
theorem d_Lw_law_32 : decode code 32 = .ok (.tableswitch 788 0 25 #[120, 183, 216, 229, 252, 265, 288, 311, 334, 347, 360, 393, 466, 489, 512, 535, 568, 581, 594, 617, 680, 693, 726, 749, 762, 775], 120) := by decide +kernel
theorem d_Lw_law_152 : decode code 152 = .ok (.aload_n 1, 1) := by decide +kernel
theorem d_Lw_law_153 : decode code 153 = .ok (.aload_n 0, 1) := by decide +kernel
theorem d_Lw_law_154 : decode code 154 = .ok (.iload_n 3, 1) := by decide +kernel
theorem d_Lw_law_155 : decode code 155 = .ok (.iconst 1, 1) := by decide +kernel
theorem d_Lw_law_156 : decode code 156 = .ok (.iadd, 1) := by decide +kernel
theorem d_Lw_law_157 : decode code 157 = .ok (.iaload, 1) := by decide +kernel
theorem d_Lw_law_158 : decode code 158 = .ok (.i2l, 1) := by decide +kernel
theorem d_Lw_law_159 : decode code 159 = .ok (.bipush 32, 2) := by decide +kernel
theorem d_Lw_law_161 : decode code 161 = .ok (.lshl, 1) := by decide +kernel
theorem d_Lw_law_162 : decode code 162 = .ok (.aload_n 0, 1) := by decide +kernel
theorem d_Lw_law_163 : decode code 163 = .ok (.iload_n 3, 1) := by decide +kernel
theorem d_Lw_law_164 : decode code 164 = .ok (.iconst 2, 1) := by decide +kernel
theorem d_Lw_law_165 : decode code 165 = .ok (.iadd, 1) := by decide +kernel
theorem d_Lw_law_166 : decode code 166 = .ok (.iaload, 1) := by decide +kernel
theorem d_Lw_law_167 : decode code 167 = .ok (.i2l, 1) := by decide +kernel
theorem d_Lw_law_168 : decode code 168 = .ok (.ldc2_w 13, 3) := by decide +kernel
theorem d_Lw_law_171 : decode code 171 = .ok (.land, 1) := by decide +kernel
theorem d_Lw_law_172 : decode code 172 = .ok (.lor, 1) := by decide +kernel
theorem d_Lw_law_173 : decode code 173 = .ok (.aload_n 0, 1) := by decide +kernel
theorem d_Lw_law_174 : decode code 174 = .ok (.iload_n 3, 1) := by decide +kernel
theorem d_Lw_law_175 : decode code 175 = .ok (.iconst 3, 1) := by decide +kernel
theorem d_Lw_law_176 : decode code 176 = .ok (.iadd, 1) := by decide +kernel
theorem d_Lw_law_177 : decode code 177 = .ok (.iaload, 1) := by decide +kernel
theorem d_Lw_law_178 : decode code 178 = .ok (.invokevirtual 15, 3) := by decide +kernel
theorem d_Lw_law_181 : decode code 181 = .ok (.aload_n 2, 1) := by decide +kernel
theorem d_Lw_law_182 : decode code 182 = .ok (.aload_n 0, 1) := by decide +kernel
theorem d_Lw_law_183 : decode code 183 = .ok (.iload_n 3, 1) := by decide +kernel
theorem d_Lw_law_184 : decode code 184 = .ok (.iconst 1, 1) := by decide +kernel
theorem d_Lw_law_185 : decode code 185 = .ok (.iadd, 1) := by decide +kernel
theorem d_Lw_law_186 : decode code 186 = .ok (.iaload, 1) := by decide +kernel
theorem d_Lw_law_187 : decode code 187 = .ok (.i2l, 1) := by decide +kernel
theorem d_Lw_law_188 : decode code 188 = .ok (.bipush 32, 2) := by decide +kernel
theorem d_Lw_law_190 : decode code 190 = .ok (.lshl, 1) := by decide +kernel
theorem d_Lw_law_191 : decode code 191 = .ok (.aload_n 0, 1) := by decide +kernel
theorem d_Lw_law_192 : decode code 192 = .ok (.iload_n 3, 1) := by decide +kernel
theorem d_Lw_law_193 : decode code 193 = .ok (.iconst 2, 1) := by decide +kernel
theorem d_Lw_law_194 : decode code 194 = .ok (.iadd, 1) := by decide +kernel
theorem d_Lw_law_195 : decode code 195 = .ok (.iaload, 1) := by decide +kernel
theorem d_Lw_law_196 : decode code 196 = .ok (.i2l, 1) := by decide +kernel
theorem d_Lw_law_197 : decode code 197 = .ok (.ldc2_w 13, 3) := by decide +kernel
theorem d_Lw_law_200 : decode code 200 = .ok (.land, 1) := by decide +kernel
theorem d_Lw_law_201 : decode code 201 = .ok (.lor, 1) := by decide +kernel
theorem d_Lw_law_202 : decode code 202 = .ok (.aload_n 0, 1) := by decide +kernel
theorem d_Lw_law_203 : decode code 203 = .ok (.iload_n 3, 1) := by decide +kernel
theorem d_Lw_law_204 : decode code 204 = .ok (.iconst 3, 1) := by decide +kernel
theorem d_Lw_law_205 : decode code 205 = .ok (.iadd, 1) := by decide +kernel
theorem d_Lw_law_206 : decode code 206 = .ok (.iaload, 1) := by decide +kernel
theorem d_Lw_law_207 : decode code 207 = .ok (.invokevirtual 19, 3) := by decide +kernel
theorem d_Lw_law_210 : decode code 210 = .ok (.if_icmp .eq 610, 3) := by decide +kernel
theorem d_Lw_law_213 : decode code 213 = .ok (.iconst 0, 1) := by decide +kernel
theorem d_Lw_law_214 : decode code 214 = .ok (.ireturn, 1) := by decide +kernel
theorem d_Lw_law_215 : decode code 215 = .ok (.aload_n 1, 1) := by decide +kernel
theorem d_Lw_law_216 : decode code 216 = .ok (.aload_n 0, 1) := by decide +kernel
theorem d_Lw_law_217 : decode code 217 = .ok (.iload_n 3, 1) := by decide +kernel
theorem d_Lw_law_218 : decode code 218 = .ok (.iconst 1, 1) := by decide +kernel
theorem d_Lw_law_219 : decode code 219 = .ok (.iadd, 1) := by decide +kernel
theorem d_Lw_law_220 : decode code 220 = .ok (.iaload, 1) := by decide +kernel
theorem d_Lw_law_221 : decode code 221 = .ok (.aload_n 0, 1) := by decide +kernel
theorem d_Lw_law_222 : decode code 222 = .ok (.iload_n 3, 1) := by decide +kernel
theorem d_Lw_law_223 : decode code 223 = .ok (.iconst 2, 1) := by decide +kernel
theorem d_Lw_law_224 : decode code 224 = .ok (.iadd, 1) := by decide +kernel
theorem d_Lw_law_225 : decode code 225 = .ok (.iaload, 1) := by decide +kernel
theorem d_Lw_law_226 : decode code 226 = .ok (.invokevirtual 20, 3) := by decide +kernel
theorem d_Lw_law_229 : decode code 229 = .ok (.aload_n 2, 1) := by decide +kernel
theorem d_Lw_law_230 : decode code 230 = .ok (.aload_n 0, 1) := by decide +kernel
theorem d_Lw_law_231 : decode code 231 = .ok (.iload_n 3, 1) := by decide +kernel
theorem d_Lw_law_232 : decode code 232 = .ok (.iconst 1, 1) := by decide +kernel
theorem d_Lw_law_233 : decode code 233 = .ok (.iadd, 1) := by decide +kernel
theorem d_Lw_law_234 : decode code 234 = .ok (.iaload, 1) := by decide +kernel
theorem d_Lw_law_235 : decode code 235 = .ok (.aload_n 0, 1) := by decide +kernel
theorem d_Lw_law_236 : decode code 236 = .ok (.iload_n 3, 1) := by decide +kernel
theorem d_Lw_law_237 : decode code 237 = .ok (.iconst 2, 1) := by decide +kernel
theorem d_Lw_law_238 : decode code 238 = .ok (.iadd, 1) := by decide +kernel
theorem d_Lw_law_239 : decode code 239 = .ok (.iaload, 1) := by decide +kernel
theorem d_Lw_law_240 : decode code 240 = .ok (.invokevirtual 24, 3) := by decide +kernel
theorem d_Lw_law_243 : decode code 243 = .ok (.if_icmp .eq 577, 3) := by decide +kernel
theorem d_Lw_law_246 : decode code 246 = .ok (.iconst 0, 1) := by decide +kernel
theorem d_Lw_law_247 : decode code 247 = .ok (.ireturn, 1) := by decide +kernel
theorem d_Lw_law_248 : decode code 248 = .ok (.aload_n 1, 1) := by decide +kernel
theorem d_Lw_law_249 : decode code 249 = .ok (.invokevirtual 25, 3) := by decide +kernel
theorem d_Lw_law_252 : decode code 252 = .ok (.aload_n 2, 1) := by decide +kernel
theorem d_Lw_law_253 : decode code 253 = .ok (.invokevirtual 29, 3) := by decide +kernel
theorem d_Lw_law_256 : decode code 256 = .ok (.if_icmp .eq 564, 3) := by decide +kernel
theorem d_Lw_law_259 : decode code 259 = .ok (.iconst 0, 1) := by decide +kernel
theorem d_Lw_law_260 : decode code 260 = .ok (.ireturn, 1) := by decide +kernel
theorem d_Lw_law_261 : decode code 261 = .ok (.aload_n 1, 1) := by decide +kernel
theorem d_Lw_law_262 : decode code 262 = .ok (.aload_n 0, 1) := by decide +kernel
theorem d_Lw_law_263 : decode code 263 = .ok (.iload_n 3, 1) := by decide +kernel
theorem d_Lw_law_264 : decode code 264 = .ok (.iconst 1, 1) := by decide +kernel
theorem d_Lw_law_265 : decode code 265 = .ok (.iadd, 1) := by decide +kernel
theorem d_Lw_law_266 : decode code 266 = .ok (.iaload, 1) := by decide +kernel
theorem d_Lw_law_267 : decode code 267 = .ok (.invokevirtual 30, 3) := by decide +kernel
theorem d_Lw_law_270 : decode code 270 = .ok (.aload_n 2, 1) := by decide +kernel
theorem d_Lw_law_271 : decode code 271 = .ok (.aload_n 0, 1) := by decide +kernel
theorem d_Lw_law_272 : decode code 272 = .ok (.iload_n 3, 1) := by decide +kernel
theorem d_Lw_law_273 : decode code 273 = .ok (.iconst 1, 1) := by decide +kernel
theorem d_Lw_law_274 : decode code 274 = .ok (.iadd, 1) := by decide +kernel
theorem d_Lw_law_275 : decode code 275 = .ok (.iaload, 1) := by decide +kernel
theorem d_Lw_law_276 : decode code 276 = .ok (.invokevirtual 34, 3) := by decide +kernel
theorem d_Lw_law_279 : decode code 279 = .ok (.if_icmp .eq 541, 3) := by decide +kernel
theorem d_Lw_law_282 : decode code 282 = .ok (.iconst 0, 1) := by decide +kernel
theorem d_Lw_law_283 : decode code 283 = .ok (.ireturn, 1) := by decide +kernel
theorem d_Lw_law_284 : decode code 284 = .ok (.aload_n 1, 1) := by decide +kernel
theorem d_Lw_law_285 : decode code 285 = .ok (.invokevirtual 35, 3) := by decide +kernel
theorem d_Lw_law_288 : decode code 288 = .ok (.aload_n 2, 1) := by decide +kernel
theorem d_Lw_law_289 : decode code 289 = .ok (.invokevirtual 38, 3) := by decide +kernel
theorem d_Lw_law_292 : decode code 292 = .ok (.if_icmp .eq 528, 3) := by decide +kernel
theorem d_Lw_law_295 : decode code 295 = .ok (.iconst 0, 1) := by decide +kernel
theorem d_Lw_law_296 : decode code 296 = .ok (.ireturn, 1) := by decide +kernel
theorem d_Lw_law_297 : decode code 297 = .ok (.aload_n 1, 1) := by decide +kernel
theorem d_Lw_law_298 : decode code 298 = .ok (.aload_n 0, 1) := by decide +kernel
theorem d_Lw_law_299 : decode code 299 = .ok (.iload_n 3, 1) := by decide +kernel
theorem d_Lw_law_300 : decode code 300 = .ok (.iconst 1, 1) := by decide +kernel
theorem d_Lw_law_301 : decode code 301 = .ok (.iadd, 1) := by decide +kernel
theorem d_Lw_law_302 : decode code 302 = .ok (.iaload, 1) := by decide +kernel
theorem d_Lw_law_303 : decode code 303 = .ok (.invokevirtual 39, 3) := by decide +kernel
theorem d_Lw_law_306 : decode code 306 = .ok (.aload_n 2, 1) := by decide +kernel
theorem d_Lw_law_307 : decode code 307 = .ok (.aload_n 0, 1) := by decide +kernel
theorem d_Lw_law_308 : decode code 308 = .ok (.iload_n 3, 1) := by decide +kernel
theorem d_Lw_law_309 : decode code 309 = .ok (.iconst 1, 1) := by decide +kernel
theorem d_Lw_law_310 : decode code 310 = .ok (.iadd, 1) := by decide +kernel
theorem d_Lw_law_311 : decode code 311 = .ok (.iaload, 1) := by decide +kernel
theorem d_Lw_law_312 : decode code 312 = .ok (.invokevirtual 42, 3) := by decide +kernel
theorem d_Lw_law_315 : decode code 315 = .ok (.if_icmp .eq 505, 3) := by decide +kernel
theorem d_Lw_law_318 : decode code 318 = .ok (.iconst 0, 1) := by decide +kernel
theorem d_Lw_law_319 : decode code 319 = .ok (.ireturn, 1) := by decide +kernel
theorem d_Lw_law_320 : decode code 320 = .ok (.aload_n 1, 1) := by decide +kernel
theorem d_Lw_law_321 : decode code 321 = .ok (.aload_n 0, 1) := by decide +kernel
theorem d_Lw_law_322 : decode code 322 = .ok (.iload_n 3, 1) := by decide +kernel
theorem d_Lw_law_323 : decode code 323 = .ok (.iconst 1, 1) := by decide +kernel
theorem d_Lw_law_324 : decode code 324 = .ok (.iadd, 1) := by decide +kernel
theorem d_Lw_law_325 : decode code 325 = .ok (.iaload, 1) := by decide +kernel
theorem d_Lw_law_326 : decode code 326 = .ok (.invokevirtual 43, 3) := by decide +kernel
theorem d_Lw_law_329 : decode code 329 = .ok (.aload_n 2, 1) := by decide +kernel
theorem d_Lw_law_330 : decode code 330 = .ok (.aload_n 0, 1) := by decide +kernel
theorem d_Lw_law_331 : decode code 331 = .ok (.iload_n 3, 1) := by decide +kernel
theorem d_Lw_law_332 : decode code 332 = .ok (.iconst 1, 1) := by decide +kernel
theorem d_Lw_law_333 : decode code 333 = .ok (.iadd, 1) := by decide +kernel
theorem d_Lw_law_334 : decode code 334 = .ok (.iaload, 1) := by decide +kernel
theorem d_Lw_law_335 : decode code 335 = .ok (.invokevirtual 46, 3) := by decide +kernel
theorem d_Lw_law_338 : decode code 338 = .ok (.if_icmp .eq 482, 3) := by decide +kernel
theorem d_Lw_law_341 : decode code 341 = .ok (.iconst 0, 1) := by decide +kernel
theorem d_Lw_law_342 : decode code 342 = .ok (.ireturn, 1) := by decide +kernel
theorem d_Lw_law_343 : decode code 343 = .ok (.aload_n 1, 1) := by decide +kernel
theorem d_Lw_law_344 : decode code 344 = .ok (.aload_n 0, 1) := by decide +kernel
theorem d_Lw_law_345 : decode code 345 = .ok (.iload_n 3, 1) := by decide +kernel
theorem d_Lw_law_346 : decode code 346 = .ok (.iconst 1, 1) := by decide +kernel
theorem d_Lw_law_347 : decode code 347 = .ok (.iadd, 1) := by decide +kernel
theorem d_Lw_law_348 : decode code 348 = .ok (.iaload, 1) := by decide +kernel
theorem d_Lw_law_349 : decode code 349 = .ok (.invokevirtual 47, 3) := by decide +kernel
theorem d_Lw_law_352 : decode code 352 = .ok (.aload_n 2, 1) := by decide +kernel
theorem d_Lw_law_353 : decode code 353 = .ok (.aload_n 0, 1) := by decide +kernel
theorem d_Lw_law_354 : decode code 354 = .ok (.iload_n 3, 1) := by decide +kernel
theorem d_Lw_law_355 : decode code 355 = .ok (.iconst 1, 1) := by decide +kernel
theorem d_Lw_law_356 : decode code 356 = .ok (.iadd, 1) := by decide +kernel
theorem d_Lw_law_357 : decode code 357 = .ok (.iaload, 1) := by decide +kernel
theorem d_Lw_law_358 : decode code 358 = .ok (.invokevirtual 50, 3) := by decide +kernel
theorem d_Lw_law_361 : decode code 361 = .ok (.if_icmp .eq 459, 3) := by decide +kernel
theorem d_Lw_law_364 : decode code 364 = .ok (.iconst 0, 1) := by decide +kernel
theorem d_Lw_law_365 : decode code 365 = .ok (.ireturn, 1) := by decide +kernel
theorem d_Lw_law_366 : decode code 366 = .ok (.aload_n 1, 1) := by decide +kernel
theorem d_Lw_law_367 : decode code 367 = .ok (.invokevirtual 51, 3) := by decide +kernel
theorem d_Lw_law_370 : decode code 370 = .ok (.aload_n 2, 1) := by decide +kernel
theorem d_Lw_law_371 : decode code 371 = .ok (.invokevirtual 54, 3) := by decide +kernel
theorem d_Lw_law_374 : decode code 374 = .ok (.if_icmp .eq 446, 3) := by decide +kernel
theorem d_Lw_law_377 : decode code 377 = .ok (.iconst 0, 1) := by decide +kernel
theorem d_Lw_law_378 : decode code 378 = .ok (.ireturn, 1) := by decide +kernel
theorem d_Lw_law_379 : decode code 379 = .ok (.aload_n 1, 1) := by decide +kernel
theorem d_Lw_law_380 : decode code 380 = .ok (.invokevirtual 55, 3) := by decide +kernel
theorem d_Lw_law_383 : decode code 383 = .ok (.aload_n 2, 1) := by decide +kernel
theorem d_Lw_law_384 : decode code 384 = .ok (.invokevirtual 58, 3) := by decide +kernel
theorem d_Lw_law_387 : decode code 387 = .ok (.if_icmp .eq 433, 3) := by decide +kernel
theorem d_Lw_law_390 : decode code 390 = .ok (.iconst 0, 1) := by decide +kernel
theorem d_Lw_law_391 : decode code 391 = .ok (.ireturn, 1) := by decide +kernel
theorem d_Lw_law_392 : decode code 392 = .ok (.aload_n 1, 1) := by decide +kernel
theorem d_Lw_law_393 : decode code 393 = .ok (.aload_n 0, 1) := by decide +kernel
theorem d_Lw_law_394 : decode code 394 = .ok (.iload_n 3, 1) := by decide +kernel
theorem d_Lw_law_395 : decode code 395 = .ok (.iconst 1, 1) := by decide +kernel
theorem d_Lw_law_396 : decode code 396 = .ok (.iadd, 1) := by decide +kernel
theorem d_Lw_law_397 : decode code 397 = .ok (.iaload, 1) := by decide +kernel
theorem d_Lw_law_398 : decode code 398 = .ok (.aload_n 0, 1) := by decide +kernel
theorem d_Lw_law_399 : decode code 399 = .ok (.iload_n 3, 1) := by decide +kernel
theorem d_Lw_law_400 : decode code 400 = .ok (.iconst 2, 1) := by decide +kernel
theorem d_Lw_law_401 : decode code 401 = .ok (.iadd, 1) := by decide +kernel
theorem d_Lw_law_402 : decode code 402 = .ok (.iaload, 1) := by decide +kernel
theorem d_Lw_law_403 : decode code 403 = .ok (.invokevirtual 59, 3) := by decide +kernel
theorem d_Lw_law_406 : decode code 406 = .ok (.aload_n 2, 1) := by decide +kernel
theorem d_Lw_law_407 : decode code 407 = .ok (.aload_n 0, 1) := by decide +kernel
theorem d_Lw_law_408 : decode code 408 = .ok (.iload_n 3, 1) := by decide +kernel
theorem d_Lw_law_409 : decode code 409 = .ok (.iconst 1, 1) := by decide +kernel
theorem d_Lw_law_410 : decode code 410 = .ok (.iadd, 1) := by decide +kernel
theorem d_Lw_law_411 : decode code 411 = .ok (.iaload, 1) := by decide +kernel
theorem d_Lw_law_412 : decode code 412 = .ok (.aload_n 0, 1) := by decide +kernel
theorem d_Lw_law_413 : decode code 413 = .ok (.iload_n 3, 1) := by decide +kernel
theorem d_Lw_law_414 : decode code 414 = .ok (.iconst 2, 1) := by decide +kernel
theorem d_Lw_law_415 : decode code 415 = .ok (.iadd, 1) := by decide +kernel
theorem d_Lw_law_416 : decode code 416 = .ok (.iaload, 1) := by decide +kernel
theorem d_Lw_law_417 : decode code 417 = .ok (.invokevirtual 62, 3) := by decide +kernel
theorem d_Lw_law_420 : decode code 420 = .ok (.if_icmp .eq 400, 3) := by decide +kernel
theorem d_Lw_law_423 : decode code 423 = .ok (.iconst 0, 1) := by decide +kernel
theorem d_Lw_law_424 : decode code 424 = .ok (.ireturn, 1) := by decide +kernel
theorem d_Lw_law_425 : decode code 425 = .ok (.aload_n 1, 1) := by decide +kernel
theorem d_Lw_law_426 : decode code 426 = .ok (.aload_n 0, 1) := by decide +kernel
theorem d_Lw_law_427 : decode code 427 = .ok (.iload_n 3, 1) := by decide +kernel
theorem d_Lw_law_428 : decode code 428 = .ok (.iconst 1, 1) := by decide +kernel
theorem d_Lw_law_429 : decode code 429 = .ok (.iadd, 1) := by decide +kernel
theorem d_Lw_law_430 : decode code 430 = .ok (.iaload, 1) := by decide +kernel
theorem d_Lw_law_431 : decode code 431 = .ok (.i2l, 1) := by decide +kernel
theorem d_Lw_law_432 : decode code 432 = .ok (.bipush 32, 2) := by decide +kernel
theorem d_Lw_law_434 : decode code 434 = .ok (.lshl, 1) := by decide +kernel
theorem d_Lw_law_435 : decode code 435 = .ok (.aload_n 0, 1) := by decide +kernel
theorem d_Lw_law_436 : decode code 436 = .ok (.iload_n 3, 1) := by decide +kernel
theorem d_Lw_law_437 : decode code 437 = .ok (.iconst 2, 1) := by decide +kernel
theorem d_Lw_law_438 : decode code 438 = .ok (.iadd, 1) := by decide +kernel
theorem d_Lw_law_439 : decode code 439 = .ok (.iaload, 1) := by decide +kernel
theorem d_Lw_law_440 : decode code 440 = .ok (.i2l, 1) := by decide +kernel
theorem d_Lw_law_441 : decode code 441 = .ok (.ldc2_w 13, 3) := by decide +kernel
theorem d_Lw_law_444 : decode code 444 = .ok (.land, 1) := by decide +kernel
theorem d_Lw_law_445 : decode code 445 = .ok (.lor, 1) := by decide +kernel
theorem d_Lw_law_446 : decode code 446 = .ok (.aload_n 0, 1) := by decide +kernel
theorem d_Lw_law_447 : decode code 447 = .ok (.iload_n 3, 1) := by decide +kernel
theorem d_Lw_law_448 : decode code 448 = .ok (.iconst 3, 1) := by decide +kernel
theorem d_Lw_law_449 : decode code 449 = .ok (.iadd, 1) := by decide +kernel
theorem d_Lw_law_450 : decode code 450 = .ok (.iaload, 1) := by decide +kernel
theorem d_Lw_law_451 : decode code 451 = .ok (.aload_n 0, 1) := by decide +kernel
theorem d_Lw_law_452 : decode code 452 = .ok (.iload_n 3, 1) := by decide +kernel
theorem d_Lw_law_453 : decode code 453 = .ok (.iconst 4, 1) := by decide +kernel
theorem d_Lw_law_454 : decode code 454 = .ok (.iadd, 1) := by decide +kernel
theorem d_Lw_law_455 : decode code 455 = .ok (.iaload, 1) := by decide +kernel
theorem d_Lw_law_456 : decode code 456 = .ok (.invokevirtual 63, 3) := by decide +kernel
theorem d_Lw_law_459 : decode code 459 = .ok (.aload_n 2, 1) := by decide +kernel
theorem d_Lw_law_460 : decode code 460 = .ok (.aload_n 0, 1) := by decide +kernel
theorem d_Lw_law_461 : decode code 461 = .ok (.iload_n 3, 1) := by decide +kernel
theorem d_Lw_law_462 : decode code 462 = .ok (.iconst 1, 1) := by decide +kernel
theorem d_Lw_law_463 : decode code 463 = .ok (.iadd, 1) := by decide +kernel
theorem d_Lw_law_464 : decode code 464 = .ok (.iaload, 1) := by decide +kernel
theorem d_Lw_law_465 : decode code 465 = .ok (.i2l, 1) := by decide +kernel
theorem d_Lw_law_466 : decode code 466 = .ok (.bipush 32, 2) := by decide +kernel
theorem d_Lw_law_468 : decode code 468 = .ok (.lshl, 1) := by decide +kernel
theorem d_Lw_law_469 : decode code 469 = .ok (.aload_n 0, 1) := by decide +kernel
theorem d_Lw_law_470 : decode code 470 = .ok (.iload_n 3, 1) := by decide +kernel
theorem d_Lw_law_471 : decode code 471 = .ok (.iconst 2, 1) := by decide +kernel
theorem d_Lw_law_472 : decode code 472 = .ok (.iadd, 1) := by decide +kernel
theorem d_Lw_law_473 : decode code 473 = .ok (.iaload, 1) := by decide +kernel
theorem d_Lw_law_474 : decode code 474 = .ok (.i2l, 1) := by decide +kernel
theorem d_Lw_law_475 : decode code 475 = .ok (.ldc2_w 13, 3) := by decide +kernel
theorem d_Lw_law_478 : decode code 478 = .ok (.land, 1) := by decide +kernel
theorem d_Lw_law_479 : decode code 479 = .ok (.lor, 1) := by decide +kernel
theorem d_Lw_law_480 : decode code 480 = .ok (.aload_n 0, 1) := by decide +kernel
theorem d_Lw_law_481 : decode code 481 = .ok (.iload_n 3, 1) := by decide +kernel
theorem d_Lw_law_482 : decode code 482 = .ok (.iconst 3, 1) := by decide +kernel
theorem d_Lw_law_483 : decode code 483 = .ok (.iadd, 1) := by decide +kernel
theorem d_Lw_law_484 : decode code 484 = .ok (.iaload, 1) := by decide +kernel
theorem d_Lw_law_485 : decode code 485 = .ok (.aload_n 0, 1) := by decide +kernel
theorem d_Lw_law_486 : decode code 486 = .ok (.iload_n 3, 1) := by decide +kernel
theorem d_Lw_law_487 : decode code 487 = .ok (.iconst 4, 1) := by decide +kernel
theorem d_Lw_law_488 : decode code 488 = .ok (.iadd, 1) := by decide +kernel
theorem d_Lw_law_489 : decode code 489 = .ok (.iaload, 1) := by decide +kernel
theorem d_Lw_law_490 : decode code 490 = .ok (.invokevirtual 67, 3) := by decide +kernel
theorem d_Lw_law_493 : decode code 493 = .ok (.if_icmp .eq 327, 3) := by decide +kernel
theorem d_Lw_law_496 : decode code 496 = .ok (.iconst 0, 1) := by decide +kernel
theorem d_Lw_law_497 : decode code 497 = .ok (.ireturn, 1) := by decide +kernel
theorem d_Lw_law_498 : decode code 498 = .ok (.aload_n 1, 1) := by decide +kernel
theorem d_Lw_law_499 : decode code 499 = .ok (.aload_n 0, 1) := by decide +kernel
theorem d_Lw_law_500 : decode code 500 = .ok (.iload_n 3, 1) := by decide +kernel
theorem d_Lw_law_501 : decode code 501 = .ok (.iconst 1, 1) := by decide +kernel
theorem d_Lw_law_502 : decode code 502 = .ok (.iadd, 1) := by decide +kernel
theorem d_Lw_law_503 : decode code 503 = .ok (.iaload, 1) := by decide +kernel
theorem d_Lw_law_504 : decode code 504 = .ok (.invokevirtual 68, 3) := by decide +kernel
theorem d_Lw_law_507 : decode code 507 = .ok (.aload_n 2, 1) := by decide +kernel
theorem d_Lw_law_508 : decode code 508 = .ok (.aload_n 0, 1) := by decide +kernel
theorem d_Lw_law_509 : decode code 509 = .ok (.iload_n 3, 1) := by decide +kernel
theorem d_Lw_law_510 : decode code 510 = .ok (.iconst 1, 1) := by decide +kernel
theorem d_Lw_law_511 : decode code 511 = .ok (.iadd, 1) := by decide +kernel
theorem d_Lw_law_512 : decode code 512 = .ok (.iaload, 1) := by decide +kernel
theorem d_Lw_law_513 : decode code 513 = .ok (.invokevirtual 71, 3) := by decide +kernel
theorem d_Lw_law_516 : decode code 516 = .ok (.if_icmp .eq 304, 3) := by decide +kernel
theorem d_Lw_law_519 : decode code 519 = .ok (.iconst 0, 1) := by decide +kernel
theorem d_Lw_law_520 : decode code 520 = .ok (.ireturn, 1) := by decide +kernel
theorem d_Lw_law_521 : decode code 521 = .ok (.aload_n 1, 1) := by decide +kernel
theorem d_Lw_law_522 : decode code 522 = .ok (.aload_n 0, 1) := by decide +kernel
theorem d_Lw_law_523 : decode code 523 = .ok (.iload_n 3, 1) := by decide +kernel
theorem d_Lw_law_524 : decode code 524 = .ok (.iconst 1, 1) := by decide +kernel
theorem d_Lw_law_525 : decode code 525 = .ok (.iadd, 1) := by decide +kernel
theorem d_Lw_law_526 : decode code 526 = .ok (.iaload, 1) := by decide +kernel
theorem d_Lw_law_527 : decode code 527 = .ok (.invokevirtual 72, 3) := by decide +kernel
theorem d_Lw_law_530 : decode code 530 = .ok (.aload_n 2, 1) := by decide +kernel
theorem d_Lw_law_531 : decode code 531 = .ok (.aload_n 0, 1) := by decide +kernel
theorem d_Lw_law_532 : decode code 532 = .ok (.iload_n 3, 1) := by decide +kernel
theorem d_Lw_law_533 : decode code 533 = .ok (.iconst 1, 1) := by decide +kernel
theorem d_Lw_law_534 : decode code 534 = .ok (.iadd, 1) := by decide +kernel
theorem d_Lw_law_535 : decode code 535 = .ok (.iaload, 1) := by decide +kernel
theorem d_Lw_law_536 : decode code 536 = .ok (.invokevirtual 75, 3) := by decide +kernel
theorem d_Lw_law_539 : decode code 539 = .ok (.if_icmp .eq 281, 3) := by decide +kernel
theorem d_Lw_law_542 : decode code 542 = .ok (.iconst 0, 1) := by decide +kernel
theorem d_Lw_law_543 : decode code 543 = .ok (.ireturn, 1) := by decide +kernel
theorem d_Lw_law_544 : decode code 544 = .ok (.aload_n 1, 1) := by decide +kernel
theorem d_Lw_law_545 : decode code 545 = .ok (.aload_n 0, 1) := by decide +kernel
theorem d_Lw_law_546 : decode code 546 = .ok (.iload_n 3, 1) := by decide +kernel
theorem d_Lw_law_547 : decode code 547 = .ok (.iconst 1, 1) := by decide +kernel
theorem d_Lw_law_548 : decode code 548 = .ok (.iadd, 1) := by decide +kernel
theorem d_Lw_law_549 : decode code 549 = .ok (.iaload, 1) := by decide +kernel
theorem d_Lw_law_550 : decode code 550 = .ok (.invokevirtual 76, 3) := by decide +kernel
theorem d_Lw_law_553 : decode code 553 = .ok (.aload_n 2, 1) := by decide +kernel
theorem d_Lw_law_554 : decode code 554 = .ok (.aload_n 0, 1) := by decide +kernel
theorem d_Lw_law_555 : decode code 555 = .ok (.iload_n 3, 1) := by decide +kernel
theorem d_Lw_law_556 : decode code 556 = .ok (.iconst 1, 1) := by decide +kernel
theorem d_Lw_law_557 : decode code 557 = .ok (.iadd, 1) := by decide +kernel
theorem d_Lw_law_558 : decode code 558 = .ok (.iaload, 1) := by decide +kernel
theorem d_Lw_law_559 : decode code 559 = .ok (.invokevirtual 79, 3) := by decide +kernel
theorem d_Lw_law_562 : decode code 562 = .ok (.if_icmp .eq 258, 3) := by decide +kernel
theorem d_Lw_law_565 : decode code 565 = .ok (.iconst 0, 1) := by decide +kernel
theorem d_Lw_law_566 : decode code 566 = .ok (.ireturn, 1) := by decide +kernel
theorem d_Lw_law_567 : decode code 567 = .ok (.aload_n 1, 1) := by decide +kernel
theorem d_Lw_law_568 : decode code 568 = .ok (.aload_n 0, 1) := by decide +kernel
theorem d_Lw_law_569 : decode code 569 = .ok (.iload_n 3, 1) := by decide +kernel
theorem d_Lw_law_570 : decode code 570 = .ok (.iconst 1, 1) := by decide +kernel
theorem d_Lw_law_571 : decode code 571 = .ok (.iadd, 1) := by decide +kernel
theorem d_Lw_law_572 : decode code 572 = .ok (.iaload, 1) := by decide +kernel
theorem d_Lw_law_573 : decode code 573 = .ok (.aload_n 0, 1) := by decide +kernel
theorem d_Lw_law_574 : decode code 574 = .ok (.iload_n 3, 1) := by decide +kernel
theorem d_Lw_law_575 : decode code 575 = .ok (.iconst 2, 1) := by decide +kernel
theorem d_Lw_law_576 : decode code 576 = .ok (.iadd, 1) := by decide +kernel
theorem d_Lw_law_577 : decode code 577 = .ok (.iaload, 1) := by decide +kernel
theorem d_Lw_law_578 : decode code 578 = .ok (.invokevirtual 80, 3) := by decide +kernel
theorem d_Lw_law_581 : decode code 581 = .ok (.aload_n 2, 1) := by decide +kernel
theorem d_Lw_law_582 : decode code 582 = .ok (.aload_n 0, 1) := by decide +kernel
theorem d_Lw_law_583 : decode code 583 = .ok (.iload_n 3, 1) := by decide +kernel
theorem d_Lw_law_584 : decode code 584 = .ok (.iconst 1, 1) := by decide +kernel
theorem d_Lw_law_585 : decode code 585 = .ok (.iadd, 1) := by decide +kernel
theorem d_Lw_law_586 : decode code 586 = .ok (.iaload, 1) := by decide +kernel
theorem d_Lw_law_587 : decode code 587 = .ok (.aload_n 0, 1) := by decide +kernel
theorem d_Lw_law_588 : decode code 588 = .ok (.iload_n 3, 1) := by decide +kernel
theorem d_Lw_law_589 : decode code 589 = .ok (.iconst 2, 1) := by decide +kernel
theorem d_Lw_law_590 : decode code 590 = .ok (.iadd, 1) := by decide +kernel
theorem d_Lw_law_591 : decode code 591 = .ok (.iaload, 1) := by decide +kernel
theorem d_Lw_law_592 : decode code 592 = .ok (.invokevirtual 83, 3) := by decide +kernel
theorem d_Lw_law_595 : decode code 595 = .ok (.if_icmp .eq 225, 3) := by decide +kernel
theorem d_Lw_law_598 : decode code 598 = .ok (.iconst 0, 1) := by decide +kernel
theorem d_Lw_law_599 : decode code 599 = .ok (.ireturn, 1) := by decide +kernel
theorem d_Lw_law_600 : decode code 600 = .ok (.aload_n 1, 1) := by decide +kernel
theorem d_Lw_law_601 : decode code 601 = .ok (.invokevirtual 84, 3) := by decide +kernel
theorem d_Lw_law_604 : decode code 604 = .ok (.aload_n 2, 1) := by decide +kernel
theorem d_Lw_law_605 : decode code 605 = .ok (.invokevirtual 87, 3) := by decide +kernel
theorem d_Lw_law_608 : decode code 608 = .ok (.if_icmp .eq 212, 3) := by decide +kernel
theorem d_Lw_law_611 : decode code 611 = .ok (.iconst 0, 1) := by decide +kernel
theorem d_Lw_law_612 : decode code 612 = .ok (.ireturn, 1) := by decide +kernel
theorem d_Lw_law_613 : decode code 613 = .ok (.aload_n 1, 1) := by decide +kernel
theorem d_Lw_law_614 : decode code 614 = .ok (.invokevirtual 88, 3) := by decide +kernel
theorem d_Lw_law_617 : decode code 617 = .ok (.aload_n 2, 1) := by decide +kernel
theorem d_Lw_law_618 : decode code 618 = .ok (.invokevirtual 91, 3) := by decide +kernel
theorem d_Lw_law_621 : decode code 621 = .ok (.if_icmp .eq 199, 3) := by decide +kernel
theorem d_Lw_law_624 : decode code 624 = .ok (.iconst 0, 1) := by decide +kernel
theorem d_Lw_law_625 : decode code 625 = .ok (.ireturn, 1) := by decide +kernel
theorem d_Lw_law_626 : decode code 626 = .ok (.aload_n 1, 1) := by decide +kernel
theorem d_Lw_law_627 : decode code 627 = .ok (.aload_n 0, 1) := by decide +kernel
theorem d_Lw_law_628 : decode code 628 = .ok (.iload_n 3, 1) := by decide +kernel
theorem d_Lw_law_629 : decode code 629 = .ok (.iconst 1, 1) := by decide +kernel
theorem d_Lw_law_630 : decode code 630 = .ok (.iadd, 1) := by decide +kernel
theorem d_Lw_law_631 : decode code 631 = .ok (.iaload, 1) := by decide +kernel
theorem d_Lw_law_632 : decode code 632 = .ok (.invokevirtual 92, 3) := by decide +kernel
theorem d_Lw_law_635 : decode code 635 = .ok (.aload_n 2, 1) := by decide +kernel
theorem d_Lw_law_636 : decode code 636 = .ok (.aload_n 0, 1) := by decide +kernel
theorem d_Lw_law_637 : decode code 637 = .ok (.iload_n 3, 1) := by decide +kernel
theorem d_Lw_law_638 : decode code 638 = .ok (.iconst 1, 1) := by decide +kernel
theorem d_Lw_law_639 : decode code 639 = .ok (.iadd, 1) := by decide +kernel
theorem d_Lw_law_640 : decode code 640 = .ok (.iaload, 1) := by decide +kernel
theorem d_Lw_law_641 : decode code 641 = .ok (.invokevirtual 95, 3) := by decide +kernel
theorem d_Lw_law_644 : decode code 644 = .ok (.if_icmp .eq 176, 3) := by decide +kernel
theorem d_Lw_law_647 : decode code 647 = .ok (.iconst 0, 1) := by decide +kernel
theorem d_Lw_law_648 : decode code 648 = .ok (.ireturn, 1) := by decide +kernel
theorem d_Lw_law_649 : decode code 649 = .ok (.aload_n 1, 1) := by decide +kernel
theorem d_Lw_law_650 : decode code 650 = .ok (.aload_n 0, 1) := by decide +kernel
theorem d_Lw_law_651 : decode code 651 = .ok (.iload_n 3, 1) := by decide +kernel
theorem d_Lw_law_652 : decode code 652 = .ok (.iconst 1, 1) := by decide +kernel
theorem d_Lw_law_653 : decode code 653 = .ok (.iadd, 1) := by decide +kernel
theorem d_Lw_law_654 : decode code 654 = .ok (.iaload, 1) := by decide +kernel
theorem d_Lw_law_655 : decode code 655 = .ok (.i2l, 1) := by decide +kernel
theorem d_Lw_law_656 : decode code 656 = .ok (.bipush 32, 2) := by decide +kernel
theorem d_Lw_law_658 : decode code 658 = .ok (.lshl, 1) := by decide +kernel
theorem d_Lw_law_659 : decode code 659 = .ok (.aload_n 0, 1) := by decide +kernel
theorem d_Lw_law_660 : decode code 660 = .ok (.iload_n 3, 1) := by decide +kernel
theorem d_Lw_law_661 : decode code 661 = .ok (.iconst 2, 1) := by decide +kernel
theorem d_Lw_law_662 : decode code 662 = .ok (.iadd, 1) := by decide +kernel
theorem d_Lw_law_663 : decode code 663 = .ok (.iaload, 1) := by decide +kernel
theorem d_Lw_law_664 : decode code 664 = .ok (.i2l, 1) := by decide +kernel
theorem d_Lw_law_665 : decode code 665 = .ok (.ldc2_w 13, 3) := by decide +kernel
theorem d_Lw_law_668 : decode code 668 = .ok (.land, 1) := by decide +kernel
theorem d_Lw_law_669 : decode code 669 = .ok (.lor, 1) := by decide +kernel
theorem d_Lw_law_670 : decode code 670 = .ok (.aload_n 0, 1) := by decide +kernel
theorem d_Lw_law_671 : decode code 671 = .ok (.iload_n 3, 1) := by decide +kernel
theorem d_Lw_law_672 : decode code 672 = .ok (.iconst 3, 1) := by decide +kernel
theorem d_Lw_law_673 : decode code 673 = .ok (.iadd, 1) := by decide +kernel
theorem d_Lw_law_674 : decode code 674 = .ok (.iaload, 1) := by decide +kernel
theorem d_Lw_law_675 : decode code 675 = .ok (.invokevirtual 96, 3) := by decide +kernel
theorem d_Lw_law_678 : decode code 678 = .ok (.aload_n 2, 1) := by decide +kernel
theorem d_Lw_law_679 : decode code 679 = .ok (.aload_n 0, 1) := by decide +kernel
theorem d_Lw_law_680 : decode code 680 = .ok (.iload_n 3, 1) := by decide +kernel
theorem d_Lw_law_681 : decode code 681 = .ok (.iconst 1, 1) := by decide +kernel
theorem d_Lw_law_682 : decode code 682 = .ok (.iadd, 1) := by decide +kernel
theorem d_Lw_law_683 : decode code 683 = .ok (.iaload, 1) := by decide +kernel
theorem d_Lw_law_684 : decode code 684 = .ok (.i2l, 1) := by decide +kernel
theorem d_Lw_law_685 : decode code 685 = .ok (.bipush 32, 2) := by decide +kernel
theorem d_Lw_law_687 : decode code 687 = .ok (.lshl, 1) := by decide +kernel
theorem d_Lw_law_688 : decode code 688 = .ok (.aload_n 0, 1) := by decide +kernel
theorem d_Lw_law_689 : decode code 689 = .ok (.iload_n 3, 1) := by decide +kernel
theorem d_Lw_law_690 : decode code 690 = .ok (.iconst 2, 1) := by decide +kernel
theorem d_Lw_law_691 : decode code 691 = .ok (.iadd, 1) := by decide +kernel
theorem d_Lw_law_692 : decode code 692 = .ok (.iaload, 1) := by decide +kernel
theorem d_Lw_law_693 : decode code 693 = .ok (.i2l, 1) := by decide +kernel
theorem d_Lw_law_694 : decode code 694 = .ok (.ldc2_w 13, 3) := by decide +kernel
theorem d_Lw_law_697 : decode code 697 = .ok (.land, 1) := by decide +kernel
theorem d_Lw_law_698 : decode code 698 = .ok (.lor, 1) := by decide +kernel
theorem d_Lw_law_699 : decode code 699 = .ok (.aload_n 0, 1) := by decide +kernel
theorem d_Lw_law_700 : decode code 700 = .ok (.iload_n 3, 1) := by decide +kernel
theorem d_Lw_law_701 : decode code 701 = .ok (.iconst 3, 1) := by decide +kernel
theorem d_Lw_law_702 : decode code 702 = .ok (.iadd, 1) := by decide +kernel
theorem d_Lw_law_703 : decode code 703 = .ok (.iaload, 1) := by decide +kernel
theorem d_Lw_law_704 : decode code 704 = .ok (.invokevirtual 99, 3) := by decide +kernel
theorem d_Lw_law_707 : decode code 707 = .ok (.if_icmp .eq 113, 3) := by decide +kernel
theorem d_Lw_law_710 : decode code 710 = .ok (.iconst 0, 1) := by decide +kernel
theorem d_Lw_law_711 : decode code 711 = .ok (.ireturn, 1) := by decide +kernel
theorem d_Lw_law_712 : decode code 712 = .ok (.aload_n 1, 1) := by decide +kernel
theorem d_Lw_law_713 : decode code 713 = .ok (.invokevirtual 100, 3) := by decide +kernel
theorem d_Lw_law_716 : decode code 716 = .ok (.aload_n 2, 1) := by decide +kernel
theorem d_Lw_law_717 : decode code 717 = .ok (.invokevirtual 103, 3) := by decide +kernel
theorem d_Lw_law_720 : decode code 720 = .ok (.if_icmp .eq 100, 3) := by decide +kernel
theorem d_Lw_law_723 : decode code 723 = .ok (.iconst 0, 1) := by decide +kernel
theorem d_Lw_law_724 : decode code 724 = .ok (.ireturn, 1) := by decide +kernel
theorem d_Lw_law_725 : decode code 725 = .ok (.aload_n 1, 1) := by decide +kernel
theorem d_Lw_law_726 : decode code 726 = .ok (.aload_n 0, 1) := by decide +kernel
theorem d_Lw_law_727 : decode code 727 = .ok (.iload_n 3, 1) := by decide +kernel
theorem d_Lw_law_728 : decode code 728 = .ok (.iconst 1, 1) := by decide +kernel
theorem d_Lw_law_729 : decode code 729 = .ok (.iadd, 1) := by decide +kernel
theorem d_Lw_law_730 : decode code 730 = .ok (.iaload, 1) := by decide +kernel
theorem d_Lw_law_731 : decode code 731 = .ok (.aload_n 0, 1) := by decide +kernel
theorem d_Lw_law_732 : decode code 732 = .ok (.iload_n 3, 1) := by decide +kernel
theorem d_Lw_law_733 : decode code 733 = .ok (.iconst 2, 1) := by decide +kernel
theorem d_Lw_law_734 : decode code 734 = .ok (.iadd, 1) := by decide +kernel
theorem d_Lw_law_735 : decode code 735 = .ok (.iaload, 1) := by decide +kernel
theorem d_Lw_law_736 : decode code 736 = .ok (.invokevirtual 104, 3) := by decide +kernel
theorem d_Lw_law_739 : decode code 739 = .ok (.aload_n 2, 1) := by decide +kernel
theorem d_Lw_law_740 : decode code 740 = .ok (.aload_n 0, 1) := by decide +kernel
theorem d_Lw_law_741 : decode code 741 = .ok (.iload_n 3, 1) := by decide +kernel
theorem d_Lw_law_742 : decode code 742 = .ok (.iconst 1, 1) := by decide +kernel
theorem d_Lw_law_743 : decode code 743 = .ok (.iadd, 1) := by decide +kernel
theorem d_Lw_law_744 : decode code 744 = .ok (.iaload, 1) := by decide +kernel
theorem d_Lw_law_745 : decode code 745 = .ok (.aload_n 0, 1) := by decide +kernel
theorem d_Lw_law_746 : decode code 746 = .ok (.iload_n 3, 1) := by decide +kernel
theorem d_Lw_law_747 : decode code 747 = .ok (.iconst 2, 1) := by decide +kernel
theorem d_Lw_law_748 : decode code 748 = .ok (.iadd, 1) := by decide +kernel
theorem d_Lw_law_749 : decode code 749 = .ok (.iaload, 1) := by decide +kernel
theorem d_Lw_law_750 : decode code 750 = .ok (.invokevirtual 107, 3) := by decide +kernel
theorem d_Lw_law_753 : decode code 753 = .ok (.if_icmp .eq 67, 3) := by decide +kernel
theorem d_Lw_law_756 : decode code 756 = .ok (.iconst 0, 1) := by decide +kernel
theorem d_Lw_law_757 : decode code 757 = .ok (.ireturn, 1) := by decide +kernel
theorem d_Lw_law_758 : decode code 758 = .ok (.aload_n 1, 1) := by decide +kernel
theorem d_Lw_law_759 : decode code 759 = .ok (.aload_n 0, 1) := by decide +kernel
theorem d_Lw_law_760 : decode code 760 = .ok (.iload_n 3, 1) := by decide +kernel
theorem d_Lw_law_761 : decode code 761 = .ok (.iconst 1, 1) := by decide +kernel
theorem d_Lw_law_762 : decode code 762 = .ok (.iadd, 1) := by decide +kernel
theorem d_Lw_law_763 : decode code 763 = .ok (.iaload, 1) := by decide +kernel
theorem d_Lw_law_764 : decode code 764 = .ok (.invokevirtual 108, 3) := by decide +kernel
theorem d_Lw_law_767 : decode code 767 = .ok (.aload_n 2, 1) := by decide +kernel
theorem d_Lw_law_768 : decode code 768 = .ok (.aload_n 0, 1) := by decide +kernel
theorem d_Lw_law_769 : decode code 769 = .ok (.iload_n 3, 1) := by decide +kernel
theorem d_Lw_law_770 : decode code 770 = .ok (.iconst 1, 1) := by decide +kernel
theorem d_Lw_law_771 : decode code 771 = .ok (.iadd, 1) := by decide +kernel
theorem d_Lw_law_772 : decode code 772 = .ok (.iaload, 1) := by decide +kernel
theorem d_Lw_law_773 : decode code 773 = .ok (.invokevirtual 111, 3) := by decide +kernel
theorem d_Lw_law_776 : decode code 776 = .ok (.if_icmp .eq 44, 3) := by decide +kernel
theorem d_Lw_law_779 : decode code 779 = .ok (.iconst 0, 1) := by decide +kernel
theorem d_Lw_law_780 : decode code 780 = .ok (.ireturn, 1) := by decide +kernel
theorem d_Lw_law_781 : decode code 781 = .ok (.aload_n 1, 1) := by decide +kernel
theorem d_Lw_law_782 : decode code 782 = .ok (.invokevirtual 112, 3) := by decide +kernel
theorem d_Lw_law_785 : decode code 785 = .ok (.aload_n 2, 1) := by decide +kernel
theorem d_Lw_law_786 : decode code 786 = .ok (.invokevirtual 115, 3) := by decide +kernel
theorem d_Lw_law_789 : decode code 789 = .ok (.if_icmp .eq 31, 3) := by decide +kernel
theorem d_Lw_law_792 : decode code 792 = .ok (.iconst 0, 1) := by decide +kernel
theorem d_Lw_law_793 : decode code 793 = .ok (.ireturn, 1) := by decide +kernel
theorem d_Lw_law_794 : decode code 794 = .ok (.aload_n 1, 1) := by decide +kernel
theorem d_Lw_law_795 : decode code 795 = .ok (.invokevirtual 116, 3) := by decide +kernel
theorem d_Lw_law_798 : decode code 798 = .ok (.aload_n 2, 1) := by decide +kernel
theorem d_Lw_law_799 : decode code 799 = .ok (.invokevirtual 119, 3) := by decide +kernel
theorem d_Lw_law_802 : decode code 802 = .ok (.if_icmp .eq 18, 3) := by decide +kernel
theorem d_Lw_law_805 : decode code 805 = .ok (.iconst 0, 1) := by decide +kernel
theorem d_Lw_law_806 : decode code 806 = .ok (.ireturn, 1) := by decide +kernel
theorem d_Lw_law_807 : decode code 807 = .ok (.aload_n 1, 1) := by decide +kernel
theorem d_Lw_law_808 : decode code 808 = .ok (.invokevirtual 120, 3) := by decide +kernel
theorem d_Lw_law_811 : decode code 811 = .ok (.aload_n 2, 1) := by decide +kernel
theorem d_Lw_law_812 : decode code 812 = .ok (.invokevirtual 123, 3) := by decide +kernel
theorem d_Lw_law_815 : decode code 815 = .ok (.if_icmp .eq 5, 3) := by decide +kernel
theorem d_Lw_law_818 : decode code 818 = .ok (.iconst 0, 1) := by decide +kernel
theorem d_Lw_law_819 : decode code 819 = .ok (.ireturn, 1) := by decide +kernel
theorem d_Lw_law_820 : decode code 820 = .ok (.iinc 3 5, 3) := by decide +kernel
theorem d_Lw_law_823 : decode code 823 = .ok (.goto (-805), 3) := by decide +kernel
theorem d_Lw_law_826 : decode code 826 = .ok (.iconst 1, 1) := by decide +kernel
theorem d_Lw_law_827 : decode code 827 = .ok (.ireturn, 1) := by decide +kernel
theorem d_Ar_fill_0 : decode prog_16_method_103_code 0 = .ok (.iconst 0, 1) := by decide +kernel
theorem d_Ar_fill_1 : decode prog_16_method_103_code 1 = .ok (.istore_n 2, 1) := by decide +kernel
theorem d_Ar_fill_2 : decode prog_16_method_103_code 2 = .ok (.aload_n 0, 1) := by decide +kernel
theorem d_Ar_fill_3 : decode prog_16_method_103_code 3 = .ok (.arraylength, 1) := by decide +kernel
theorem d_Ar_fill_4 : decode prog_16_method_103_code 4 = .ok (.istore_n 3, 1) := by decide +kernel
theorem d_Ar_fill_5 : decode prog_16_method_103_code 5 = .ok (.iload_n 2, 1) := by decide +kernel
theorem d_Ar_fill_6 : decode prog_16_method_103_code 6 = .ok (.iload_n 3, 1) := by decide +kernel
theorem d_Ar_fill_7 : decode prog_16_method_103_code 7 = .ok (.if_icmp .ge 13, 3) := by decide +kernel
theorem d_Ar_fill_10 : decode prog_16_method_103_code 10 = .ok (.aload_n 0, 1) := by decide +kernel
theorem d_Ar_fill_11 : decode prog_16_method_103_code 11 = .ok (.iload_n 2, 1) := by decide +kernel
theorem d_Ar_fill_12 : decode prog_16_method_103_code 12 = .ok (.iload_n 1, 1) := by decide +kernel
theorem d_Ar_fill_13 : decode prog_16_method_103_code 13 = .ok (.iastore, 1) := by decide +kernel
theorem d_Ar_fill_14 : decode prog_16_method_103_code 14 = .ok (.iinc 2 1, 3) := by decide +kernel
theorem d_Ar_fill_17 : decode prog_16_method_103_code 17 = .ok (.goto (-12), 3) := by decide +kernel
theorem d_Ar_fill_20 : decode prog_16_method_103_code 20 = .ok (.return_, 1) := by decide +kernel
