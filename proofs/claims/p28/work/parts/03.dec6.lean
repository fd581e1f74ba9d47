theorem zkL_law_0 : zqc cL_law 0 [187, 0, 7, 89, 183, 0, 9, 76, 187, 0, 10, 89, 183, 0, 12, 77, 3, 62, 29, 42, 190, 16, 6, 100, 163, 7, 26, 42, 29, 46, 16, 63, 126, 170] := zq_of 34 (by decide +kernel)
theorem dL_law_0 : decode cL_law 0 = .ok (.new 7, 3) := zq_2 zo_187 zkL_law_0 0 rfl rfl 0 7 rfl rfl _ rfl
theorem dL_law_3 : decode cL_law 3 = .ok (.dup, 1) := zq_0 zo_89 zkL_law_0 3 rfl rfl
theorem dL_law_4 : decode cL_law 4 = .ok (.invokespecial 9, 3) := zq_2 zo_183 zkL_law_0 4 rfl rfl 0 9 rfl rfl _ rfl
theorem dL_law_7 : decode cL_law 7 = .ok (.astore_n 1, 1) := zq_0 zo_76 zkL_law_0 7 rfl rfl
theorem dL_law_8 : decode cL_law 8 = .ok (.new 10, 3) := zq_2 zo_187 zkL_law_0 8 rfl rfl 0 10 rfl rfl _ rfl
theorem dL_law_11 : decode cL_law 11 = .ok (.dup, 1) := zq_0 zo_89 zkL_law_0 11 rfl rfl
theorem dL_law_12 : decode cL_law 12 = .ok (.invokespecial 12, 3) := zq_2 zo_183 zkL_law_0 12 rfl rfl 0 12 rfl rfl _ rfl
theorem dL_law_15 : decode cL_law 15 = .ok (.astore_n 2, 1) := zq_0 zo_77 zkL_law_0 15 rfl rfl
theorem dL_law_16 : decode cL_law 16 = .ok (.iconst 0, 1) := zq_0 zo_3 zkL_law_0 16 rfl rfl
theorem dL_law_17 : decode cL_law 17 = .ok (.istore_n 3, 1) := zq_0 zo_62 zkL_law_0 17 rfl rfl
theorem dL_law_18 : decode cL_law 18 = .ok (.iload_n 3, 1) := zq_0 zo_29 zkL_law_0 18 rfl rfl
theorem dL_law_19 : decode cL_law 19 = .ok (.aload_n 0, 1) := zq_0 zo_42 zkL_law_0 19 rfl rfl
theorem dL_law_20 : decode cL_law 20 = .ok (.arraylength, 1) := zq_0 zo_190 zkL_law_0 20 rfl rfl
theorem dL_law_21 : decode cL_law 21 = .ok (.bipush 6, 2) := zq_1s zo_16 zkL_law_0 21 rfl rfl 6 rfl _ (by decide +kernel)
theorem dL_law_23 : decode cL_law 23 = .ok (.isub, 1) := zq_0 zo_100 zkL_law_0 23 rfl rfl
theorem dL_law_24 : decode cL_law 24 = .ok (.if_icmp .gt 1818, 3) := zq_2s zo_163 zkL_law_0 24 rfl rfl 7 26 rfl rfl _ (by decide +kernel)
theorem dL_law_27 : decode cL_law 27 = .ok (.aload_n 0, 1) := zq_0 zo_42 zkL_law_0 27 rfl rfl
theorem dL_law_28 : decode cL_law 28 = .ok (.iload_n 3, 1) := zq_0 zo_29 zkL_law_0 28 rfl rfl
theorem dL_law_29 : decode cL_law 29 = .ok (.iaload, 1) := zq_0 zo_46 zkL_law_0 29 rfl rfl
theorem dL_law_30 : decode cL_law 30 = .ok (.bipush 63, 2) := zq_1s zo_16 zkL_law_0 30 rfl rfl 63 rfl _ (by decide +kernel)
theorem zkL_law_32 : zqc cL_law 32 [126, 170, 0, 0, 0, 0, 7, 11, 0, 0, 0, 0, 0, 0, 0, 33, 0, 0, 0, 151, 0, 0, 0, 214, 0, 0, 0, 237, 0, 0, 1, 14, 0, 0] := zq_of 34 (by decide +kernel)
theorem dL_law_32 : decode cL_law 32 = .ok (.iand, 1) := zq_0 zo_126 zkL_law_32 0 rfl rfl
theorem dL_law_33 : decode cL_law 33 = .ok (.tableswitch 1803 0 33 #[151, 214, 237, 270, 293, 326, 369, 412, 475, 538, 601, 654, 697, 750, 809, 842, 905, 968, 1011, 1064, 1107, 1176, 1245, 1288, 1367, 1430, 1473, 1516, 1549, 1618, 1681, 1734, 1757, 1780], 151) := by decide +kernel
theorem zkL_law_160 : zqc cL_law 160 [0, 0, 6, 13, 0, 0, 6, 82, 0, 0, 6, 145, 0, 0, 6, 198, 0, 0, 6, 221, 0, 0, 6, 244, 43, 42, 29, 4, 96, 46, 42, 29, 5, 96] := zq_of 34 (by decide +kernel)
theorem dL_law_184 : decode cL_law 184 = .ok (.aload_n 1, 1) := zq_0 zo_43 zkL_law_160 24 rfl rfl
theorem dL_law_185 : decode cL_law 185 = .ok (.aload_n 0, 1) := zq_0 zo_42 zkL_law_160 25 rfl rfl
theorem dL_law_186 : decode cL_law 186 = .ok (.iload_n 3, 1) := zq_0 zo_29 zkL_law_160 26 rfl rfl
theorem dL_law_187 : decode cL_law 187 = .ok (.iconst 1, 1) := zq_0 zo_4 zkL_law_160 27 rfl rfl
theorem dL_law_188 : decode cL_law 188 = .ok (.iadd, 1) := zq_0 zo_96 zkL_law_160 28 rfl rfl
theorem dL_law_189 : decode cL_law 189 = .ok (.iaload, 1) := zq_0 zo_46 zkL_law_160 29 rfl rfl
theorem dL_law_190 : decode cL_law 190 = .ok (.aload_n 0, 1) := zq_0 zo_42 zkL_law_160 30 rfl rfl
theorem dL_law_191 : decode cL_law 191 = .ok (.iload_n 3, 1) := zq_0 zo_29 zkL_law_160 31 rfl rfl
theorem zkL_law_192 : zqc cL_law 192 [5, 96, 46, 42, 29, 6, 96, 46, 42, 29, 7, 96, 46, 42, 29, 8, 96, 46, 182, 0, 13, 87, 44, 42, 29, 4, 96, 46, 42, 29, 5, 96, 46, 42] := zq_of 34 (by decide +kernel)
theorem dL_law_192 : decode cL_law 192 = .ok (.iconst 2, 1) := zq_0 zo_5 zkL_law_192 0 rfl rfl
theorem dL_law_193 : decode cL_law 193 = .ok (.iadd, 1) := zq_0 zo_96 zkL_law_192 1 rfl rfl
theorem dL_law_194 : decode cL_law 194 = .ok (.iaload, 1) := zq_0 zo_46 zkL_law_192 2 rfl rfl
theorem dL_law_195 : decode cL_law 195 = .ok (.aload_n 0, 1) := zq_0 zo_42 zkL_law_192 3 rfl rfl
theorem dL_law_196 : decode cL_law 196 = .ok (.iload_n 3, 1) := zq_0 zo_29 zkL_law_192 4 rfl rfl
theorem dL_law_197 : decode cL_law 197 = .ok (.iconst 3, 1) := zq_0 zo_6 zkL_law_192 5 rfl rfl
theorem dL_law_198 : decode cL_law 198 = .ok (.iadd, 1) := zq_0 zo_96 zkL_law_192 6 rfl rfl
theorem dL_law_199 : decode cL_law 199 = .ok (.iaload, 1) := zq_0 zo_46 zkL_law_192 7 rfl rfl
theorem dL_law_200 : decode cL_law 200 = .ok (.aload_n 0, 1) := zq_0 zo_42 zkL_law_192 8 rfl rfl
theorem dL_law_201 : decode cL_law 201 = .ok (.iload_n 3, 1) := zq_0 zo_29 zkL_law_192 9 rfl rfl
theorem dL_law_202 : decode cL_law 202 = .ok (.iconst 4, 1) := zq_0 zo_7 zkL_law_192 10 rfl rfl
theorem dL_law_203 : decode cL_law 203 = .ok (.iadd, 1) := zq_0 zo_96 zkL_law_192 11 rfl rfl
theorem dL_law_204 : decode cL_law 204 = .ok (.iaload, 1) := zq_0 zo_46 zkL_law_192 12 rfl rfl
theorem dL_law_205 : decode cL_law 205 = .ok (.aload_n 0, 1) := zq_0 zo_42 zkL_law_192 13 rfl rfl
theorem dL_law_206 : decode cL_law 206 = .ok (.iload_n 3, 1) := zq_0 zo_29 zkL_law_192 14 rfl rfl
theorem dL_law_207 : decode cL_law 207 = .ok (.iconst 5, 1) := zq_0 zo_8 zkL_law_192 15 rfl rfl
theorem dL_law_208 : decode cL_law 208 = .ok (.iadd, 1) := zq_0 zo_96 zkL_law_192 16 rfl rfl
theorem dL_law_209 : decode cL_law 209 = .ok (.iaload, 1) := zq_0 zo_46 zkL_law_192 17 rfl rfl
theorem dL_law_210 : decode cL_law 210 = .ok (.invokevirtual 13, 3) := zq_2 zo_182 zkL_law_192 18 rfl rfl 0 13 rfl rfl _ rfl
theorem dL_law_213 : decode cL_law 213 = .ok (.pop, 1) := zq_0 zo_87 zkL_law_192 21 rfl rfl
theorem dL_law_214 : decode cL_law 214 = .ok (.aload_n 2, 1) := zq_0 zo_44 zkL_law_192 22 rfl rfl
theorem dL_law_215 : decode cL_law 215 = .ok (.aload_n 0, 1) := zq_0 zo_42 zkL_law_192 23 rfl rfl
theorem dL_law_216 : decode cL_law 216 = .ok (.iload_n 3, 1) := zq_0 zo_29 zkL_law_192 24 rfl rfl
theorem dL_law_217 : decode cL_law 217 = .ok (.iconst 1, 1) := zq_0 zo_4 zkL_law_192 25 rfl rfl
theorem dL_law_218 : decode cL_law 218 = .ok (.iadd, 1) := zq_0 zo_96 zkL_law_192 26 rfl rfl
theorem dL_law_219 : decode cL_law 219 = .ok (.iaload, 1) := zq_0 zo_46 zkL_law_192 27 rfl rfl
theorem dL_law_220 : decode cL_law 220 = .ok (.aload_n 0, 1) := zq_0 zo_42 zkL_law_192 28 rfl rfl
theorem dL_law_221 : decode cL_law 221 = .ok (.iload_n 3, 1) := zq_0 zo_29 zkL_law_192 29 rfl rfl
theorem dL_law_222 : decode cL_law 222 = .ok (.iconst 2, 1) := zq_0 zo_5 zkL_law_192 30 rfl rfl
theorem dL_law_223 : decode cL_law 223 = .ok (.iadd, 1) := zq_0 zo_96 zkL_law_192 31 rfl rfl
theorem zkL_law_224 : zqc cL_law 224 [46, 42, 29, 6, 96, 46, 42, 29, 7, 96, 46, 42, 29, 8, 96, 46, 182, 0, 17, 87, 167, 6, 56, 43, 42, 29, 4, 96, 46, 182, 0, 18, 87, 44] := zq_of 34 (by decide +kernel)
theorem dL_law_224 : decode cL_law 224 = .ok (.iaload, 1) := zq_0 zo_46 zkL_law_224 0 rfl rfl
theorem dL_law_225 : decode cL_law 225 = .ok (.aload_n 0, 1) := zq_0 zo_42 zkL_law_224 1 rfl rfl
theorem dL_law_226 : decode cL_law 226 = .ok (.iload_n 3, 1) := zq_0 zo_29 zkL_law_224 2 rfl rfl
theorem dL_law_227 : decode cL_law 227 = .ok (.iconst 3, 1) := zq_0 zo_6 zkL_law_224 3 rfl rfl
theorem dL_law_228 : decode cL_law 228 = .ok (.iadd, 1) := zq_0 zo_96 zkL_law_224 4 rfl rfl
theorem dL_law_229 : decode cL_law 229 = .ok (.iaload, 1) := zq_0 zo_46 zkL_law_224 5 rfl rfl
theorem dL_law_230 : decode cL_law 230 = .ok (.aload_n 0, 1) := zq_0 zo_42 zkL_law_224 6 rfl rfl
theorem dL_law_231 : decode cL_law 231 = .ok (.iload_n 3, 1) := zq_0 zo_29 zkL_law_224 7 rfl rfl
theorem dL_law_232 : decode cL_law 232 = .ok (.iconst 4, 1) := zq_0 zo_7 zkL_law_224 8 rfl rfl
theorem dL_law_233 : decode cL_law 233 = .ok (.iadd, 1) := zq_0 zo_96 zkL_law_224 9 rfl rfl
theorem dL_law_234 : decode cL_law 234 = .ok (.iaload, 1) := zq_0 zo_46 zkL_law_224 10 rfl rfl
theorem dL_law_235 : decode cL_law 235 = .ok (.aload_n 0, 1) := zq_0 zo_42 zkL_law_224 11 rfl rfl
theorem dL_law_236 : decode cL_law 236 = .ok (.iload_n 3, 1) := zq_0 zo_29 zkL_law_224 12 rfl rfl
theorem dL_law_237 : decode cL_law 237 = .ok (.iconst 5, 1) := zq_0 zo_8 zkL_law_224 13 rfl rfl
theorem dL_law_238 : decode cL_law 238 = .ok (.iadd, 1) := zq_0 zo_96 zkL_law_224 14 rfl rfl
theorem dL_law_239 : decode cL_law 239 = .ok (.iaload, 1) := zq_0 zo_46 zkL_law_224 15 rfl rfl
theorem dL_law_240 : decode cL_law 240 = .ok (.invokevirtual 17, 3) := zq_2 zo_182 zkL_law_224 16 rfl rfl 0 17 rfl rfl _ rfl
theorem dL_law_243 : decode cL_law 243 = .ok (.pop, 1) := zq_0 zo_87 zkL_law_224 19 rfl rfl
theorem dL_law_244 : decode cL_law 244 = .ok (.goto 1592, 3) := zq_2s zo_167 zkL_law_224 20 rfl rfl 6 56 rfl rfl _ (by decide +kernel)
theorem dL_law_247 : decode cL_law 247 = .ok (.aload_n 1, 1) := zq_0 zo_43 zkL_law_224 23 rfl rfl
theorem dL_law_248 : decode cL_law 248 = .ok (.aload_n 0, 1) := zq_0 zo_42 zkL_law_224 24 rfl rfl
theorem dL_law_249 : decode cL_law 249 = .ok (.iload_n 3, 1) := zq_0 zo_29 zkL_law_224 25 rfl rfl
theorem dL_law_250 : decode cL_law 250 = .ok (.iconst 1, 1) := zq_0 zo_4 zkL_law_224 26 rfl rfl
theorem dL_law_251 : decode cL_law 251 = .ok (.iadd, 1) := zq_0 zo_96 zkL_law_224 27 rfl rfl
theorem dL_law_252 : decode cL_law 252 = .ok (.iaload, 1) := zq_0 zo_46 zkL_law_224 28 rfl rfl
theorem dL_law_253 : decode cL_law 253 = .ok (.invokevirtual 18, 3) := zq_2 zo_182 zkL_law_224 29 rfl rfl 0 18 rfl rfl _ rfl
theorem zkL_law_256 : zqc cL_law 256 [87, 44, 42, 29, 4, 96, 46, 182, 0, 22, 87, 167, 6, 33, 43, 42, 29, 4, 96, 46, 42, 29, 5, 96, 46, 182, 0, 23, 87, 44, 42, 29, 4, 96] := zq_of 34 (by decide +kernel)
theorem dL_law_256 : decode cL_law 256 = .ok (.pop, 1) := zq_0 zo_87 zkL_law_256 0 rfl rfl
theorem dL_law_257 : decode cL_law 257 = .ok (.aload_n 2, 1) := zq_0 zo_44 zkL_law_256 1 rfl rfl
theorem dL_law_258 : decode cL_law 258 = .ok (.aload_n 0, 1) := zq_0 zo_42 zkL_law_256 2 rfl rfl
theorem dL_law_259 : decode cL_law 259 = .ok (.iload_n 3, 1) := zq_0 zo_29 zkL_law_256 3 rfl rfl
theorem dL_law_260 : decode cL_law 260 = .ok (.iconst 1, 1) := zq_0 zo_4 zkL_law_256 4 rfl rfl
theorem dL_law_261 : decode cL_law 261 = .ok (.iadd, 1) := zq_0 zo_96 zkL_law_256 5 rfl rfl
theorem dL_law_262 : decode cL_law 262 = .ok (.iaload, 1) := zq_0 zo_46 zkL_law_256 6 rfl rfl
theorem dL_law_263 : decode cL_law 263 = .ok (.invokevirtual 22, 3) := zq_2 zo_182 zkL_law_256 7 rfl rfl 0 22 rfl rfl _ rfl
theorem dL_law_266 : decode cL_law 266 = .ok (.pop, 1) := zq_0 zo_87 zkL_law_256 10 rfl rfl
theorem dL_law_267 : decode cL_law 267 = .ok (.goto 1569, 3) := zq_2s zo_167 zkL_law_256 11 rfl rfl 6 33 rfl rfl _ (by decide +kernel)
theorem dL_law_270 : decode cL_law 270 = .ok (.aload_n 1, 1) := zq_0 zo_43 zkL_law_256 14 rfl rfl
theorem dL_law_271 : decode cL_law 271 = .ok (.aload_n 0, 1) := zq_0 zo_42 zkL_law_256 15 rfl rfl
theorem dL_law_272 : decode cL_law 272 = .ok (.iload_n 3, 1) := zq_0 zo_29 zkL_law_256 16 rfl rfl
theorem dL_law_273 : decode cL_law 273 = .ok (.iconst 1, 1) := zq_0 zo_4 zkL_law_256 17 rfl rfl
theorem dL_law_274 : decode cL_law 274 = .ok (.iadd, 1) := zq_0 zo_96 zkL_law_256 18 rfl rfl
theorem dL_law_275 : decode cL_law 275 = .ok (.iaload, 1) := zq_0 zo_46 zkL_law_256 19 rfl rfl
theorem dL_law_276 : decode cL_law 276 = .ok (.aload_n 0, 1) := zq_0 zo_42 zkL_law_256 20 rfl rfl
theorem dL_law_277 : decode cL_law 277 = .ok (.iload_n 3, 1) := zq_0 zo_29 zkL_law_256 21 rfl rfl
theorem dL_law_278 : decode cL_law 278 = .ok (.iconst 2, 1) := zq_0 zo_5 zkL_law_256 22 rfl rfl
theorem dL_law_279 : decode cL_law 279 = .ok (.iadd, 1) := zq_0 zo_96 zkL_law_256 23 rfl rfl
theorem dL_law_280 : decode cL_law 280 = .ok (.iaload, 1) := zq_0 zo_46 zkL_law_256 24 rfl rfl
theorem dL_law_281 : decode cL_law 281 = .ok (.invokevirtual 23, 3) := zq_2 zo_182 zkL_law_256 25 rfl rfl 0 23 rfl rfl _ rfl
theorem dL_law_284 : decode cL_law 284 = .ok (.pop, 1) := zq_0 zo_87 zkL_law_256 28 rfl rfl
theorem dL_law_285 : decode cL_law 285 = .ok (.aload_n 2, 1) := zq_0 zo_44 zkL_law_256 29 rfl rfl
theorem dL_law_286 : decode cL_law 286 = .ok (.aload_n 0, 1) := zq_0 zo_42 zkL_law_256 30 rfl rfl
theorem dL_law_287 : decode cL_law 287 = .ok (.iload_n 3, 1) := zq_0 zo_29 zkL_law_256 31 rfl rfl
theorem zkL_law_288 : zqc cL_law 288 [4, 96, 46, 42, 29, 5, 96, 46, 182, 0, 27, 87, 167, 6, 0, 43, 42, 29, 4, 96, 46, 182, 0, 28, 87, 44, 42, 29, 4, 96, 46, 182, 0, 31] := zq_of 34 (by decide +kernel)
theorem dL_law_288 : decode cL_law 288 = .ok (.iconst 1, 1) := zq_0 zo_4 zkL_law_288 0 rfl rfl
theorem dL_law_289 : decode cL_law 289 = .ok (.iadd, 1) := zq_0 zo_96 zkL_law_288 1 rfl rfl
theorem dL_law_290 : decode cL_law 290 = .ok (.iaload, 1) := zq_0 zo_46 zkL_law_288 2 rfl rfl
theorem dL_law_291 : decode cL_law 291 = .ok (.aload_n 0, 1) := zq_0 zo_42 zkL_law_288 3 rfl rfl
theorem dL_law_292 : decode cL_law 292 = .ok (.iload_n 3, 1) := zq_0 zo_29 zkL_law_288 4 rfl rfl
theorem dL_law_293 : decode cL_law 293 = .ok (.iconst 2, 1) := zq_0 zo_5 zkL_law_288 5 rfl rfl
theorem dL_law_294 : decode cL_law 294 = .ok (.iadd, 1) := zq_0 zo_96 zkL_law_288 6 rfl rfl
theorem dL_law_295 : decode cL_law 295 = .ok (.iaload, 1) := zq_0 zo_46 zkL_law_288 7 rfl rfl
theorem dL_law_296 : decode cL_law 296 = .ok (.invokevirtual 27, 3) := zq_2 zo_182 zkL_law_288 8 rfl rfl 0 27 rfl rfl _ rfl
theorem dL_law_299 : decode cL_law 299 = .ok (.pop, 1) := zq_0 zo_87 zkL_law_288 11 rfl rfl
theorem dL_law_300 : decode cL_law 300 = .ok (.goto 1536, 3) := zq_2s zo_167 zkL_law_288 12 rfl rfl 6 0 rfl rfl _ (by decide +kernel)
theorem dL_law_303 : decode cL_law 303 = .ok (.aload_n 1, 1) := zq_0 zo_43 zkL_law_288 15 rfl rfl
theorem dL_law_304 : decode cL_law 304 = .ok (.aload_n 0, 1) := zq_0 zo_42 zkL_law_288 16 rfl rfl
theorem dL_law_305 : decode cL_law 305 = .ok (.iload_n 3, 1) := zq_0 zo_29 zkL_law_288 17 rfl rfl
theorem dL_law_306 : decode cL_law 306 = .ok (.iconst 1, 1) := zq_0 zo_4 zkL_law_288 18 rfl rfl
theorem dL_law_307 : decode cL_law 307 = .ok (.iadd, 1) := zq_0 zo_96 zkL_law_288 19 rfl rfl
theorem dL_law_308 : decode cL_law 308 = .ok (.iaload, 1) := zq_0 zo_46 zkL_law_288 20 rfl rfl
theorem dL_law_309 : decode cL_law 309 = .ok (.invokevirtual 28, 3) := zq_2 zo_182 zkL_law_288 21 rfl rfl 0 28 rfl rfl _ rfl
theorem dL_law_312 : decode cL_law 312 = .ok (.pop, 1) := zq_0 zo_87 zkL_law_288 24 rfl rfl
theorem dL_law_313 : decode cL_law 313 = .ok (.aload_n 2, 1) := zq_0 zo_44 zkL_law_288 25 rfl rfl
theorem dL_law_314 : decode cL_law 314 = .ok (.aload_n 0, 1) := zq_0 zo_42 zkL_law_288 26 rfl rfl
theorem dL_law_315 : decode cL_law 315 = .ok (.iload_n 3, 1) := zq_0 zo_29 zkL_law_288 27 rfl rfl
theorem dL_law_316 : decode cL_law 316 = .ok (.iconst 1, 1) := zq_0 zo_4 zkL_law_288 28 rfl rfl
theorem dL_law_317 : decode cL_law 317 = .ok (.iadd, 1) := zq_0 zo_96 zkL_law_288 29 rfl rfl
theorem dL_law_318 : decode cL_law 318 = .ok (.iaload, 1) := zq_0 zo_46 zkL_law_288 30 rfl rfl
theorem dL_law_319 : decode cL_law 319 = .ok (.invokevirtual 31, 3) := zq_2 zo_182 zkL_law_288 31 rfl rfl 0 31 rfl rfl _ rfl
theorem zkL_law_320 : zqc cL_law 320 [0, 31, 87, 167, 5, 233, 43, 42, 29, 4, 96, 46, 42, 29, 5, 96, 46, 182, 0, 32, 87, 44, 42, 29, 4, 96, 46, 42, 29, 5, 96, 46, 182, 0] := zq_of 34 (by decide +kernel)
theorem dL_law_322 : decode cL_law 322 = .ok (.pop, 1) := zq_0 zo_87 zkL_law_320 2 rfl rfl
theorem dL_law_323 : decode cL_law 323 = .ok (.goto 1513, 3) := zq_2s zo_167 zkL_law_320 3 rfl rfl 5 233 rfl rfl _ (by decide +kernel)
theorem dL_law_326 : decode cL_law 326 = .ok (.aload_n 1, 1) := zq_0 zo_43 zkL_law_320 6 rfl rfl
theorem dL_law_327 : decode cL_law 327 = .ok (.aload_n 0, 1) := zq_0 zo_42 zkL_law_320 7 rfl rfl
theorem dL_law_328 : decode cL_law 328 = .ok (.iload_n 3, 1) := zq_0 zo_29 zkL_law_320 8 rfl rfl
theorem dL_law_329 : decode cL_law 329 = .ok (.iconst 1, 1) := zq_0 zo_4 zkL_law_320 9 rfl rfl
theorem dL_law_330 : decode cL_law 330 = .ok (.iadd, 1) := zq_0 zo_96 zkL_law_320 10 rfl rfl
theorem dL_law_331 : decode cL_law 331 = .ok (.iaload, 1) := zq_0 zo_46 zkL_law_320 11 rfl rfl
theorem dL_law_332 : decode cL_law 332 = .ok (.aload_n 0, 1) := zq_0 zo_42 zkL_law_320 12 rfl rfl
theorem dL_law_333 : decode cL_law 333 = .ok (.iload_n 3, 1) := zq_0 zo_29 zkL_law_320 13 rfl rfl
theorem dL_law_334 : decode cL_law 334 = .ok (.iconst 2, 1) := zq_0 zo_5 zkL_law_320 14 rfl rfl
theorem dL_law_335 : decode cL_law 335 = .ok (.iadd, 1) := zq_0 zo_96 zkL_law_320 15 rfl rfl
theorem dL_law_336 : decode cL_law 336 = .ok (.iaload, 1) := zq_0 zo_46 zkL_law_320 16 rfl rfl
theorem dL_law_337 : decode cL_law 337 = .ok (.invokevirtual 32, 3) := zq_2 zo_182 zkL_law_320 17 rfl rfl 0 32 rfl rfl _ rfl
theorem dL_law_340 : decode cL_law 340 = .ok (.pop, 1) := zq_0 zo_87 zkL_law_320 20 rfl rfl
theorem dL_law_341 : decode cL_law 341 = .ok (.aload_n 2, 1) := zq_0 zo_44 zkL_law_320 21 rfl rfl
theorem dL_law_342 : decode cL_law 342 = .ok (.aload_n 0, 1) := zq_0 zo_42 zkL_law_320 22 rfl rfl
theorem dL_law_343 : decode cL_law 343 = .ok (.iload_n 3, 1) := zq_0 zo_29 zkL_law_320 23 rfl rfl
theorem dL_law_344 : decode cL_law 344 = .ok (.iconst 1, 1) := zq_0 zo_4 zkL_law_320 24 rfl rfl
theorem dL_law_345 : decode cL_law 345 = .ok (.iadd, 1) := zq_0 zo_96 zkL_law_320 25 rfl rfl
theorem dL_law_346 : decode cL_law 346 = .ok (.iaload, 1) := zq_0 zo_46 zkL_law_320 26 rfl rfl
theorem dL_law_347 : decode cL_law 347 = .ok (.aload_n 0, 1) := zq_0 zo_42 zkL_law_320 27 rfl rfl
theorem dL_law_348 : decode cL_law 348 = .ok (.iload_n 3, 1) := zq_0 zo_29 zkL_law_320 28 rfl rfl
theorem dL_law_349 : decode cL_law 349 = .ok (.iconst 2, 1) := zq_0 zo_5 zkL_law_320 29 rfl rfl
theorem dL_law_350 : decode cL_law 350 = .ok (.iadd, 1) := zq_0 zo_96 zkL_law_320 30 rfl rfl
theorem dL_law_351 : decode cL_law 351 = .ok (.iaload, 1) := zq_0 zo_46 zkL_law_320 31 rfl rfl
theorem zkL_law_352 : zqc cL_law 352 [182, 0, 35, 87, 167, 5, 200, 43, 42, 29, 4, 96, 46, 42, 29, 5, 96, 46, 42, 29, 6, 96, 46, 182, 0, 36, 87, 44, 42, 29, 4, 96, 46, 42] := zq_of 34 (by decide +kernel)
theorem dL_law_352 : decode cL_law 352 = .ok (.invokevirtual 35, 3) := zq_2 zo_182 zkL_law_352 0 rfl rfl 0 35 rfl rfl _ rfl
theorem dL_law_355 : decode cL_law 355 = .ok (.pop, 1) := zq_0 zo_87 zkL_law_352 3 rfl rfl
theorem dL_law_356 : decode cL_law 356 = .ok (.goto 1480, 3) := zq_2s zo_167 zkL_law_352 4 rfl rfl 5 200 rfl rfl _ (by decide +kernel)
theorem dL_law_359 : decode cL_law 359 = .ok (.aload_n 1, 1) := zq_0 zo_43 zkL_law_352 7 rfl rfl
theorem dL_law_360 : decode cL_law 360 = .ok (.aload_n 0, 1) := zq_0 zo_42 zkL_law_352 8 rfl rfl
theorem dL_law_361 : decode cL_law 361 = .ok (.iload_n 3, 1) := zq_0 zo_29 zkL_law_352 9 rfl rfl
theorem dL_law_362 : decode cL_law 362 = .ok (.iconst 1, 1) := zq_0 zo_4 zkL_law_352 10 rfl rfl
theorem dL_law_363 : decode cL_law 363 = .ok (.iadd, 1) := zq_0 zo_96 zkL_law_352 11 rfl rfl
theorem dL_law_364 : decode cL_law 364 = .ok (.iaload, 1) := zq_0 zo_46 zkL_law_352 12 rfl rfl
theorem dL_law_365 : decode cL_law 365 = .ok (.aload_n 0, 1) := zq_0 zo_42 zkL_law_352 13 rfl rfl
theorem dL_law_366 : decode cL_law 366 = .ok (.iload_n 3, 1) := zq_0 zo_29 zkL_law_352 14 rfl rfl
theorem dL_law_367 : decode cL_law 367 = .ok (.iconst 2, 1) := zq_0 zo_5 zkL_law_352 15 rfl rfl
theorem dL_law_368 : decode cL_law 368 = .ok (.iadd, 1) := zq_0 zo_96 zkL_law_352 16 rfl rfl
theorem dL_law_369 : decode cL_law 369 = .ok (.iaload, 1) := zq_0 zo_46 zkL_law_352 17 rfl rfl
theorem dL_law_370 : decode cL_law 370 = .ok (.aload_n 0, 1) := zq_0 zo_42 zkL_law_352 18 rfl rfl
theorem dL_law_371 : decode cL_law 371 = .ok (.iload_n 3, 1) := zq_0 zo_29 zkL_law_352 19 rfl rfl
theorem dL_law_372 : decode cL_law 372 = .ok (.iconst 3, 1) := zq_0 zo_6 zkL_law_352 20 rfl rfl
theorem dL_law_373 : decode cL_law 373 = .ok (.iadd, 1) := zq_0 zo_96 zkL_law_352 21 rfl rfl
theorem dL_law_374 : decode cL_law 374 = .ok (.iaload, 1) := zq_0 zo_46 zkL_law_352 22 rfl rfl
theorem dL_law_375 : decode cL_law 375 = .ok (.invokevirtual 36, 3) := zq_2 zo_182 zkL_law_352 23 rfl rfl 0 36 rfl rfl _ rfl
theorem dL_law_378 : decode cL_law 378 = .ok (.pop, 1) := zq_0 zo_87 zkL_law_352 26 rfl rfl
theorem dL_law_379 : decode cL_law 379 = .ok (.aload_n 2, 1) := zq_0 zo_44 zkL_law_352 27 rfl rfl
theorem dL_law_380 : decode cL_law 380 = .ok (.aload_n 0, 1) := zq_0 zo_42 zkL_law_352 28 rfl rfl
theorem dL_law_381 : decode cL_law 381 = .ok (.iload_n 3, 1) := zq_0 zo_29 zkL_law_352 29 rfl rfl
theorem dL_law_382 : decode cL_law 382 = .ok (.iconst 1, 1) := zq_0 zo_4 zkL_law_352 30 rfl rfl
theorem dL_law_383 : decode cL_law 383 = .ok (.iadd, 1) := zq_0 zo_96 zkL_law_352 31 rfl rfl
theorem zkL_law_384 : zqc cL_law 384 [46, 42, 29, 5, 96, 46, 42, 29, 6, 96, 46, 182, 0, 40, 87, 167, 5, 157, 43, 42, 29, 4, 96, 46, 42, 29, 5, 96, 46, 42, 29, 6, 96, 46] := zq_of 34 (by decide +kernel)
theorem dL_law_384 : decode cL_law 384 = .ok (.iaload, 1) := zq_0 zo_46 zkL_law_384 0 rfl rfl
theorem dL_law_385 : decode cL_law 385 = .ok (.aload_n 0, 1) := zq_0 zo_42 zkL_law_384 1 rfl rfl
theorem dL_law_386 : decode cL_law 386 = .ok (.iload_n 3, 1) := zq_0 zo_29 zkL_law_384 2 rfl rfl
theorem dL_law_387 : decode cL_law 387 = .ok (.iconst 2, 1) := zq_0 zo_5 zkL_law_384 3 rfl rfl
theorem dL_law_388 : decode cL_law 388 = .ok (.iadd, 1) := zq_0 zo_96 zkL_law_384 4 rfl rfl
theorem dL_law_389 : decode cL_law 389 = .ok (.iaload, 1) := zq_0 zo_46 zkL_law_384 5 rfl rfl
theorem dL_law_390 : decode cL_law 390 = .ok (.aload_n 0, 1) := zq_0 zo_42 zkL_law_384 6 rfl rfl
theorem dL_law_391 : decode cL_law 391 = .ok (.iload_n 3, 1) := zq_0 zo_29 zkL_law_384 7 rfl rfl
theorem dL_law_392 : decode cL_law 392 = .ok (.iconst 3, 1) := zq_0 zo_6 zkL_law_384 8 rfl rfl
theorem dL_law_393 : decode cL_law 393 = .ok (.iadd, 1) := zq_0 zo_96 zkL_law_384 9 rfl rfl
theorem dL_law_394 : decode cL_law 394 = .ok (.iaload, 1) := zq_0 zo_46 zkL_law_384 10 rfl rfl
theorem dL_law_395 : decode cL_law 395 = .ok (.invokevirtual 40, 3) := zq_2 zo_182 zkL_law_384 11 rfl rfl 0 40 rfl rfl _ rfl
theorem dL_law_398 : decode cL_law 398 = .ok (.pop, 1) := zq_0 zo_87 zkL_law_384 14 rfl rfl
theorem dL_law_399 : decode cL_law 399 = .ok (.goto 1437, 3) := zq_2s zo_167 zkL_law_384 15 rfl rfl 5 157 rfl rfl _ (by decide +kernel)
theorem dL_law_402 : decode cL_law 402 = .ok (.aload_n 1, 1) := zq_0 zo_43 zkL_law_384 18 rfl rfl
theorem dL_law_403 : decode cL_law 403 = .ok (.aload_n 0, 1) := zq_0 zo_42 zkL_law_384 19 rfl rfl
theorem dL_law_404 : decode cL_law 404 = .ok (.iload_n 3, 1) := zq_0 zo_29 zkL_law_384 20 rfl rfl
theorem dL_law_405 : decode cL_law 405 = .ok (.iconst 1, 1) := zq_0 zo_4 zkL_law_384 21 rfl rfl
theorem dL_law_406 : decode cL_law 406 = .ok (.iadd, 1) := zq_0 zo_96 zkL_law_384 22 rfl rfl
theorem dL_law_407 : decode cL_law 407 = .ok (.iaload, 1) := zq_0 zo_46 zkL_law_384 23 rfl rfl
theorem dL_law_408 : decode cL_law 408 = .ok (.aload_n 0, 1) := zq_0 zo_42 zkL_law_384 24 rfl rfl
theorem dL_law_409 : decode cL_law 409 = .ok (.iload_n 3, 1) := zq_0 zo_29 zkL_law_384 25 rfl rfl
theorem dL_law_410 : decode cL_law 410 = .ok (.iconst 2, 1) := zq_0 zo_5 zkL_law_384 26 rfl rfl
theorem dL_law_411 : decode cL_law 411 = .ok (.iadd, 1) := zq_0 zo_96 zkL_law_384 27 rfl rfl
theorem dL_law_412 : decode cL_law 412 = .ok (.iaload, 1) := zq_0 zo_46 zkL_law_384 28 rfl rfl
theorem dL_law_413 : decode cL_law 413 = .ok (.aload_n 0, 1) := zq_0 zo_42 zkL_law_384 29 rfl rfl
theorem dL_law_414 : decode cL_law 414 = .ok (.iload_n 3, 1) := zq_0 zo_29 zkL_law_384 30 rfl rfl
theorem dL_law_415 : decode cL_law 415 = .ok (.iconst 3, 1) := zq_0 zo_6 zkL_law_384 31 rfl rfl
theorem zkL_law_416 : zqc cL_law 416 [96, 46, 182, 0, 41, 87, 44, 42, 29, 4, 96, 46, 42, 29, 5, 96, 46, 42, 29, 6, 96, 46, 182, 0, 44, 87, 167, 5, 114, 43, 42, 29, 4, 96] := zq_of 34 (by decide +kernel)
theorem dL_law_416 : decode cL_law 416 = .ok (.iadd, 1) := zq_0 zo_96 zkL_law_416 0 rfl rfl
theorem dL_law_417 : decode cL_law 417 = .ok (.iaload, 1) := zq_0 zo_46 zkL_law_416 1 rfl rfl
theorem dL_law_418 : decode cL_law 418 = .ok (.invokevirtual 41, 3) := zq_2 zo_182 zkL_law_416 2 rfl rfl 0 41 rfl rfl _ rfl
theorem dL_law_421 : decode cL_law 421 = .ok (.pop, 1) := zq_0 zo_87 zkL_law_416 5 rfl rfl
theorem dL_law_422 : decode cL_law 422 = .ok (.aload_n 2, 1) := zq_0 zo_44 zkL_law_416 6 rfl rfl
theorem dL_law_423 : decode cL_law 423 = .ok (.aload_n 0, 1) := zq_0 zo_42 zkL_law_416 7 rfl rfl
theorem dL_law_424 : decode cL_law 424 = .ok (.iload_n 3, 1) := zq_0 zo_29 zkL_law_416 8 rfl rfl
theorem dL_law_425 : decode cL_law 425 = .ok (.iconst 1, 1) := zq_0 zo_4 zkL_law_416 9 rfl rfl
theorem dL_law_426 : decode cL_law 426 = .ok (.iadd, 1) := zq_0 zo_96 zkL_law_416 10 rfl rfl
theorem dL_law_427 : decode cL_law 427 = .ok (.iaload, 1) := zq_0 zo_46 zkL_law_416 11 rfl rfl
theorem dL_law_428 : decode cL_law 428 = .ok (.aload_n 0, 1) := zq_0 zo_42 zkL_law_416 12 rfl rfl
theorem dL_law_429 : decode cL_law 429 = .ok (.iload_n 3, 1) := zq_0 zo_29 zkL_law_416 13 rfl rfl
theorem dL_law_430 : decode cL_law 430 = .ok (.iconst 2, 1) := zq_0 zo_5 zkL_law_416 14 rfl rfl
theorem dL_law_431 : decode cL_law 431 = .ok (.iadd, 1) := zq_0 zo_96 zkL_law_416 15 rfl rfl
theorem dL_law_432 : decode cL_law 432 = .ok (.iaload, 1) := zq_0 zo_46 zkL_law_416 16 rfl rfl
theorem dL_law_433 : decode cL_law 433 = .ok (.aload_n 0, 1) := zq_0 zo_42 zkL_law_416 17 rfl rfl
theorem dL_law_434 : decode cL_law 434 = .ok (.iload_n 3, 1) := zq_0 zo_29 zkL_law_416 18 rfl rfl
theorem dL_law_435 : decode cL_law 435 = .ok (.iconst 3, 1) := zq_0 zo_6 zkL_law_416 19 rfl rfl
theorem dL_law_436 : decode cL_law 436 = .ok (.iadd, 1) := zq_0 zo_96 zkL_law_416 20 rfl rfl
theorem dL_law_437 : decode cL_law 437 = .ok (.iaload, 1) := zq_0 zo_46 zkL_law_416 21 rfl rfl
theorem dL_law_438 : decode cL_law 438 = .ok (.invokevirtual 44, 3) := zq_2 zo_182 zkL_law_416 22 rfl rfl 0 44 rfl rfl _ rfl
theorem dL_law_441 : decode cL_law 441 = .ok (.pop, 1) := zq_0 zo_87 zkL_law_416 25 rfl rfl
theorem dL_law_442 : decode cL_law 442 = .ok (.goto 1394, 3) := zq_2s zo_167 zkL_law_416 26 rfl rfl 5 114 rfl rfl _ (by decide +kernel)
theorem dL_law_445 : decode cL_law 445 = .ok (.aload_n 1, 1) := zq_0 zo_43 zkL_law_416 29 rfl rfl
theorem dL_law_446 : decode cL_law 446 = .ok (.aload_n 0, 1) := zq_0 zo_42 zkL_law_416 30 rfl rfl
theorem dL_law_447 : decode cL_law 447 = .ok (.iload_n 3, 1) := zq_0 zo_29 zkL_law_416 31 rfl rfl
theorem zkL_law_448 : zqc cL_law 448 [4, 96, 46, 42, 29, 5, 96, 46, 42, 29, 6, 96, 46, 42, 29, 7, 96, 46, 42, 29, 8, 96, 46, 182, 0, 45, 87, 44, 42, 29, 4, 96, 46, 42] := zq_of 34 (by decide +kernel)
theorem dL_law_448 : decode cL_law 448 = .ok (.iconst 1, 1) := zq_0 zo_4 zkL_law_448 0 rfl rfl
theorem dL_law_449 : decode cL_law 449 = .ok (.iadd, 1) := zq_0 zo_96 zkL_law_448 1 rfl rfl
theorem dL_law_450 : decode cL_law 450 = .ok (.iaload, 1) := zq_0 zo_46 zkL_law_448 2 rfl rfl
theorem dL_law_451 : decode cL_law 451 = .ok (.aload_n 0, 1) := zq_0 zo_42 zkL_law_448 3 rfl rfl
theorem dL_law_452 : decode cL_law 452 = .ok (.iload_n 3, 1) := zq_0 zo_29 zkL_law_448 4 rfl rfl
theorem dL_law_453 : decode cL_law 453 = .ok (.iconst 2, 1) := zq_0 zo_5 zkL_law_448 5 rfl rfl
theorem dL_law_454 : decode cL_law 454 = .ok (.iadd, 1) := zq_0 zo_96 zkL_law_448 6 rfl rfl
theorem dL_law_455 : decode cL_law 455 = .ok (.iaload, 1) := zq_0 zo_46 zkL_law_448 7 rfl rfl
theorem dL_law_456 : decode cL_law 456 = .ok (.aload_n 0, 1) := zq_0 zo_42 zkL_law_448 8 rfl rfl
theorem dL_law_457 : decode cL_law 457 = .ok (.iload_n 3, 1) := zq_0 zo_29 zkL_law_448 9 rfl rfl
theorem dL_law_458 : decode cL_law 458 = .ok (.iconst 3, 1) := zq_0 zo_6 zkL_law_448 10 rfl rfl
theorem dL_law_459 : decode cL_law 459 = .ok (.iadd, 1) := zq_0 zo_96 zkL_law_448 11 rfl rfl
theorem dL_law_460 : decode cL_law 460 = .ok (.iaload, 1) := zq_0 zo_46 zkL_law_448 12 rfl rfl
theorem dL_law_461 : decode cL_law 461 = .ok (.aload_n 0, 1) := zq_0 zo_42 zkL_law_448 13 rfl rfl
theorem dL_law_462 : decode cL_law 462 = .ok (.iload_n 3, 1) := zq_0 zo_29 zkL_law_448 14 rfl rfl
theorem dL_law_463 : decode cL_law 463 = .ok (.iconst 4, 1) := zq_0 zo_7 zkL_law_448 15 rfl rfl
theorem dL_law_464 : decode cL_law 464 = .ok (.iadd, 1) := zq_0 zo_96 zkL_law_448 16 rfl rfl
theorem dL_law_465 : decode cL_law 465 = .ok (.iaload, 1) := zq_0 zo_46 zkL_law_448 17 rfl rfl
theorem dL_law_466 : decode cL_law 466 = .ok (.aload_n 0, 1) := zq_0 zo_42 zkL_law_448 18 rfl rfl
theorem dL_law_467 : decode cL_law 467 = .ok (.iload_n 3, 1) := zq_0 zo_29 zkL_law_448 19 rfl rfl
theorem dL_law_468 : decode cL_law 468 = .ok (.iconst 5, 1) := zq_0 zo_8 zkL_law_448 20 rfl rfl
theorem dL_law_469 : decode cL_law 469 = .ok (.iadd, 1) := zq_0 zo_96 zkL_law_448 21 rfl rfl
theorem dL_law_470 : decode cL_law 470 = .ok (.iaload, 1) := zq_0 zo_46 zkL_law_448 22 rfl rfl
theorem dL_law_471 : decode cL_law 471 = .ok (.invokevirtual 45, 3) := zq_2 zo_182 zkL_law_448 23 rfl rfl 0 45 rfl rfl _ rfl
theorem dL_law_474 : decode cL_law 474 = .ok (.pop, 1) := zq_0 zo_87 zkL_law_448 26 rfl rfl
theorem dL_law_475 : decode cL_law 475 = .ok (.aload_n 2, 1) := zq_0 zo_44 zkL_law_448 27 rfl rfl
theorem dL_law_476 : decode cL_law 476 = .ok (.aload_n 0, 1) := zq_0 zo_42 zkL_law_448 28 rfl rfl
theorem dL_law_477 : decode cL_law 477 = .ok (.iload_n 3, 1) := zq_0 zo_29 zkL_law_448 29 rfl rfl
theorem dL_law_478 : decode cL_law 478 = .ok (.iconst 1, 1) := zq_0 zo_4 zkL_law_448 30 rfl rfl
theorem dL_law_479 : decode cL_law 479 = .ok (.iadd, 1) := zq_0 zo_96 zkL_law_448 31 rfl rfl
theorem zkL_law_480 : zqc cL_law 480 [46, 42, 29, 5, 96, 46, 42, 29, 6, 96, 46, 42, 29, 7, 96, 46, 42, 29, 8, 96, 46, 182, 0, 48, 87, 167, 5, 51, 43, 42, 29, 4, 96, 46] := zq_of 34 (by decide +kernel)
theorem dL_law_480 : decode cL_law 480 = .ok (.iaload, 1) := zq_0 zo_46 zkL_law_480 0 rfl rfl
theorem dL_law_481 : decode cL_law 481 = .ok (.aload_n 0, 1) := zq_0 zo_42 zkL_law_480 1 rfl rfl
theorem dL_law_482 : decode cL_law 482 = .ok (.iload_n 3, 1) := zq_0 zo_29 zkL_law_480 2 rfl rfl
theorem dL_law_483 : decode cL_law 483 = .ok (.iconst 2, 1) := zq_0 zo_5 zkL_law_480 3 rfl rfl
theorem dL_law_484 : decode cL_law 484 = .ok (.iadd, 1) := zq_0 zo_96 zkL_law_480 4 rfl rfl
theorem dL_law_485 : decode cL_law 485 = .ok (.iaload, 1) := zq_0 zo_46 zkL_law_480 5 rfl rfl
theorem dL_law_486 : decode cL_law 486 = .ok (.aload_n 0, 1) := zq_0 zo_42 zkL_law_480 6 rfl rfl
theorem dL_law_487 : decode cL_law 487 = .ok (.iload_n 3, 1) := zq_0 zo_29 zkL_law_480 7 rfl rfl
theorem dL_law_488 : decode cL_law 488 = .ok (.iconst 3, 1) := zq_0 zo_6 zkL_law_480 8 rfl rfl
theorem dL_law_489 : decode cL_law 489 = .ok (.iadd, 1) := zq_0 zo_96 zkL_law_480 9 rfl rfl
theorem dL_law_490 : decode cL_law 490 = .ok (.iaload, 1) := zq_0 zo_46 zkL_law_480 10 rfl rfl
theorem dL_law_491 : decode cL_law 491 = .ok (.aload_n 0, 1) := zq_0 zo_42 zkL_law_480 11 rfl rfl
theorem dL_law_492 : decode cL_law 492 = .ok (.iload_n 3, 1) := zq_0 zo_29 zkL_law_480 12 rfl rfl
theorem dL_law_493 : decode cL_law 493 = .ok (.iconst 4, 1) := zq_0 zo_7 zkL_law_480 13 rfl rfl
theorem dL_law_494 : decode cL_law 494 = .ok (.iadd, 1) := zq_0 zo_96 zkL_law_480 14 rfl rfl
theorem dL_law_495 : decode cL_law 495 = .ok (.iaload, 1) := zq_0 zo_46 zkL_law_480 15 rfl rfl
theorem dL_law_496 : decode cL_law 496 = .ok (.aload_n 0, 1) := zq_0 zo_42 zkL_law_480 16 rfl rfl
theorem dL_law_497 : decode cL_law 497 = .ok (.iload_n 3, 1) := zq_0 zo_29 zkL_law_480 17 rfl rfl
theorem dL_law_498 : decode cL_law 498 = .ok (.iconst 5, 1) := zq_0 zo_8 zkL_law_480 18 rfl rfl
theorem dL_law_499 : decode cL_law 499 = .ok (.iadd, 1) := zq_0 zo_96 zkL_law_480 19 rfl rfl
theorem dL_law_500 : decode cL_law 500 = .ok (.iaload, 1) := zq_0 zo_46 zkL_law_480 20 rfl rfl
theorem dL_law_501 : decode cL_law 501 = .ok (.invokevirtual 48, 3) := zq_2 zo_182 zkL_law_480 21 rfl rfl 0 48 rfl rfl _ rfl
theorem dL_law_504 : decode cL_law 504 = .ok (.pop, 1) := zq_0 zo_87 zkL_law_480 24 rfl rfl
theorem dL_law_505 : decode cL_law 505 = .ok (.goto 1331, 3) := zq_2s zo_167 zkL_law_480 25 rfl rfl 5 51 rfl rfl _ (by decide +kernel)
theorem dL_law_508 : decode cL_law 508 = .ok (.aload_n 1, 1) := zq_0 zo_43 zkL_law_480 28 rfl rfl
theorem dL_law_509 : decode cL_law 509 = .ok (.aload_n 0, 1) := zq_0 zo_42 zkL_law_480 29 rfl rfl
theorem dL_law_510 : decode cL_law 510 = .ok (.iload_n 3, 1) := zq_0 zo_29 zkL_law_480 30 rfl rfl
theorem dL_law_511 : decode cL_law 511 = .ok (.iconst 1, 1) := zq_0 zo_4 zkL_law_480 31 rfl rfl
theorem zkL_law_512 : zqc cL_law 512 [96, 46, 42, 29, 5, 96, 46, 42, 29, 6, 96, 46, 42, 29, 7, 96, 46, 42, 29, 8, 96, 46, 182, 0, 49, 87, 44, 42, 29, 4, 96, 46, 42, 29] := zq_of 34 (by decide +kernel)
theorem dL_law_512 : decode cL_law 512 = .ok (.iadd, 1) := zq_0 zo_96 zkL_law_512 0 rfl rfl
theorem dL_law_513 : decode cL_law 513 = .ok (.iaload, 1) := zq_0 zo_46 zkL_law_512 1 rfl rfl
theorem dL_law_514 : decode cL_law 514 = .ok (.aload_n 0, 1) := zq_0 zo_42 zkL_law_512 2 rfl rfl
theorem dL_law_515 : decode cL_law 515 = .ok (.iload_n 3, 1) := zq_0 zo_29 zkL_law_512 3 rfl rfl
theorem dL_law_516 : decode cL_law 516 = .ok (.iconst 2, 1) := zq_0 zo_5 zkL_law_512 4 rfl rfl
theorem dL_law_517 : decode cL_law 517 = .ok (.iadd, 1) := zq_0 zo_96 zkL_law_512 5 rfl rfl
theorem dL_law_518 : decode cL_law 518 = .ok (.iaload, 1) := zq_0 zo_46 zkL_law_512 6 rfl rfl
theorem dL_law_519 : decode cL_law 519 = .ok (.aload_n 0, 1) := zq_0 zo_42 zkL_law_512 7 rfl rfl
theorem dL_law_520 : decode cL_law 520 = .ok (.iload_n 3, 1) := zq_0 zo_29 zkL_law_512 8 rfl rfl
theorem dL_law_521 : decode cL_law 521 = .ok (.iconst 3, 1) := zq_0 zo_6 zkL_law_512 9 rfl rfl
theorem dL_law_522 : decode cL_law 522 = .ok (.iadd, 1) := zq_0 zo_96 zkL_law_512 10 rfl rfl
theorem dL_law_523 : decode cL_law 523 = .ok (.iaload, 1) := zq_0 zo_46 zkL_law_512 11 rfl rfl
theorem dL_law_524 : decode cL_law 524 = .ok (.aload_n 0, 1) := zq_0 zo_42 zkL_law_512 12 rfl rfl
theorem dL_law_525 : decode cL_law 525 = .ok (.iload_n 3, 1) := zq_0 zo_29 zkL_law_512 13 rfl rfl
theorem dL_law_526 : decode cL_law 526 = .ok (.iconst 4, 1) := zq_0 zo_7 zkL_law_512 14 rfl rfl
theorem dL_law_527 : decode cL_law 527 = .ok (.iadd, 1) := zq_0 zo_96 zkL_law_512 15 rfl rfl
theorem dL_law_528 : decode cL_law 528 = .ok (.iaload, 1) := zq_0 zo_46 zkL_law_512 16 rfl rfl
theorem dL_law_529 : decode cL_law 529 = .ok (.aload_n 0, 1) := zq_0 zo_42 zkL_law_512 17 rfl rfl
theorem dL_law_530 : decode cL_law 530 = .ok (.iload_n 3, 1) := zq_0 zo_29 zkL_law_512 18 rfl rfl
theorem dL_law_531 : decode cL_law 531 = .ok (.iconst 5, 1) := zq_0 zo_8 zkL_law_512 19 rfl rfl
theorem dL_law_532 : decode cL_law 532 = .ok (.iadd, 1) := zq_0 zo_96 zkL_law_512 20 rfl rfl
theorem dL_law_533 : decode cL_law 533 = .ok (.iaload, 1) := zq_0 zo_46 zkL_law_512 21 rfl rfl
theorem dL_law_534 : decode cL_law 534 = .ok (.invokevirtual 49, 3) := zq_2 zo_182 zkL_law_512 22 rfl rfl 0 49 rfl rfl _ rfl
theorem dL_law_537 : decode cL_law 537 = .ok (.pop, 1) := zq_0 zo_87 zkL_law_512 25 rfl rfl
theorem dL_law_538 : decode cL_law 538 = .ok (.aload_n 2, 1) := zq_0 zo_44 zkL_law_512 26 rfl rfl
theorem dL_law_539 : decode cL_law 539 = .ok (.aload_n 0, 1) := zq_0 zo_42 zkL_law_512 27 rfl rfl
theorem dL_law_540 : decode cL_law 540 = .ok (.iload_n 3, 1) := zq_0 zo_29 zkL_law_512 28 rfl rfl
theorem dL_law_541 : decode cL_law 541 = .ok (.iconst 1, 1) := zq_0 zo_4 zkL_law_512 29 rfl rfl
theorem dL_law_542 : decode cL_law 542 = .ok (.iadd, 1) := zq_0 zo_96 zkL_law_512 30 rfl rfl
theorem dL_law_543 : decode cL_law 543 = .ok (.iaload, 1) := zq_0 zo_46 zkL_law_512 31 rfl rfl
theorem zkL_law_544 : zqc cL_law 544 [42, 29, 5, 96, 46, 42, 29, 6, 96, 46, 42, 29, 7, 96, 46, 42, 29, 8, 96, 46, 182, 0, 52, 87, 167, 4, 244, 43, 42, 29, 4, 96, 46, 42] := zq_of 34 (by decide +kernel)
theorem dL_law_544 : decode cL_law 544 = .ok (.aload_n 0, 1) := zq_0 zo_42 zkL_law_544 0 rfl rfl
theorem dL_law_545 : decode cL_law 545 = .ok (.iload_n 3, 1) := zq_0 zo_29 zkL_law_544 1 rfl rfl
theorem dL_law_546 : decode cL_law 546 = .ok (.iconst 2, 1) := zq_0 zo_5 zkL_law_544 2 rfl rfl
theorem dL_law_547 : decode cL_law 547 = .ok (.iadd, 1) := zq_0 zo_96 zkL_law_544 3 rfl rfl
theorem dL_law_548 : decode cL_law 548 = .ok (.iaload, 1) := zq_0 zo_46 zkL_law_544 4 rfl rfl
theorem dL_law_549 : decode cL_law 549 = .ok (.aload_n 0, 1) := zq_0 zo_42 zkL_law_544 5 rfl rfl
theorem dL_law_550 : decode cL_law 550 = .ok (.iload_n 3, 1) := zq_0 zo_29 zkL_law_544 6 rfl rfl
theorem dL_law_551 : decode cL_law 551 = .ok (.iconst 3, 1) := zq_0 zo_6 zkL_law_544 7 rfl rfl
theorem dL_law_552 : decode cL_law 552 = .ok (.iadd, 1) := zq_0 zo_96 zkL_law_544 8 rfl rfl
theorem dL_law_553 : decode cL_law 553 = .ok (.iaload, 1) := zq_0 zo_46 zkL_law_544 9 rfl rfl
theorem dL_law_554 : decode cL_law 554 = .ok (.aload_n 0, 1) := zq_0 zo_42 zkL_law_544 10 rfl rfl
theorem dL_law_555 : decode cL_law 555 = .ok (.iload_n 3, 1) := zq_0 zo_29 zkL_law_544 11 rfl rfl
theorem dL_law_556 : decode cL_law 556 = .ok (.iconst 4, 1) := zq_0 zo_7 zkL_law_544 12 rfl rfl
theorem dL_law_557 : decode cL_law 557 = .ok (.iadd, 1) := zq_0 zo_96 zkL_law_544 13 rfl rfl
theorem dL_law_558 : decode cL_law 558 = .ok (.iaload, 1) := zq_0 zo_46 zkL_law_544 14 rfl rfl
theorem dL_law_559 : decode cL_law 559 = .ok (.aload_n 0, 1) := zq_0 zo_42 zkL_law_544 15 rfl rfl
theorem dL_law_560 : decode cL_law 560 = .ok (.iload_n 3, 1) := zq_0 zo_29 zkL_law_544 16 rfl rfl
theorem dL_law_561 : decode cL_law 561 = .ok (.iconst 5, 1) := zq_0 zo_8 zkL_law_544 17 rfl rfl
theorem dL_law_562 : decode cL_law 562 = .ok (.iadd, 1) := zq_0 zo_96 zkL_law_544 18 rfl rfl
theorem dL_law_563 : decode cL_law 563 = .ok (.iaload, 1) := zq_0 zo_46 zkL_law_544 19 rfl rfl
theorem dL_law_564 : decode cL_law 564 = .ok (.invokevirtual 52, 3) := zq_2 zo_182 zkL_law_544 20 rfl rfl 0 52 rfl rfl _ rfl
theorem dL_law_567 : decode cL_law 567 = .ok (.pop, 1) := zq_0 zo_87 zkL_law_544 23 rfl rfl
theorem dL_law_568 : decode cL_law 568 = .ok (.goto 1268, 3) := zq_2s zo_167 zkL_law_544 24 rfl rfl 4 244 rfl rfl _ (by decide +kernel)
theorem dL_law_571 : decode cL_law 571 = .ok (.aload_n 1, 1) := zq_0 zo_43 zkL_law_544 27 rfl rfl
theorem dL_law_572 : decode cL_law 572 = .ok (.aload_n 0, 1) := zq_0 zo_42 zkL_law_544 28 rfl rfl
theorem dL_law_573 : decode cL_law 573 = .ok (.iload_n 3, 1) := zq_0 zo_29 zkL_law_544 29 rfl rfl
theorem dL_law_574 : decode cL_law 574 = .ok (.iconst 1, 1) := zq_0 zo_4 zkL_law_544 30 rfl rfl
theorem dL_law_575 : decode cL_law 575 = .ok (.iadd, 1) := zq_0 zo_96 zkL_law_544 31 rfl rfl
theorem zkL_law_576 : zqc cL_law 576 [46, 42, 29, 5, 96, 46, 42, 29, 6, 96, 46, 42, 29, 7, 96, 46, 42, 29, 8, 96, 46, 182, 0, 53, 87, 44, 42, 29, 4, 96, 46, 42, 29, 5] := zq_of 34 (by decide +kernel)
theorem dL_law_576 : decode cL_law 576 = .ok (.iaload, 1) := zq_0 zo_46 zkL_law_576 0 rfl rfl
theorem dL_law_577 : decode cL_law 577 = .ok (.aload_n 0, 1) := zq_0 zo_42 zkL_law_576 1 rfl rfl
theorem dL_law_578 : decode cL_law 578 = .ok (.iload_n 3, 1) := zq_0 zo_29 zkL_law_576 2 rfl rfl
theorem dL_law_579 : decode cL_law 579 = .ok (.iconst 2, 1) := zq_0 zo_5 zkL_law_576 3 rfl rfl
theorem dL_law_580 : decode cL_law 580 = .ok (.iadd, 1) := zq_0 zo_96 zkL_law_576 4 rfl rfl
theorem dL_law_581 : decode cL_law 581 = .ok (.iaload, 1) := zq_0 zo_46 zkL_law_576 5 rfl rfl
theorem dL_law_582 : decode cL_law 582 = .ok (.aload_n 0, 1) := zq_0 zo_42 zkL_law_576 6 rfl rfl
theorem dL_law_583 : decode cL_law 583 = .ok (.iload_n 3, 1) := zq_0 zo_29 zkL_law_576 7 rfl rfl
theorem dL_law_584 : decode cL_law 584 = .ok (.iconst 3, 1) := zq_0 zo_6 zkL_law_576 8 rfl rfl
theorem dL_law_585 : decode cL_law 585 = .ok (.iadd, 1) := zq_0 zo_96 zkL_law_576 9 rfl rfl
theorem dL_law_586 : decode cL_law 586 = .ok (.iaload, 1) := zq_0 zo_46 zkL_law_576 10 rfl rfl
theorem dL_law_587 : decode cL_law 587 = .ok (.aload_n 0, 1) := zq_0 zo_42 zkL_law_576 11 rfl rfl
theorem dL_law_588 : decode cL_law 588 = .ok (.iload_n 3, 1) := zq_0 zo_29 zkL_law_576 12 rfl rfl
theorem dL_law_589 : decode cL_law 589 = .ok (.iconst 4, 1) := zq_0 zo_7 zkL_law_576 13 rfl rfl
theorem dL_law_590 : decode cL_law 590 = .ok (.iadd, 1) := zq_0 zo_96 zkL_law_576 14 rfl rfl
theorem dL_law_591 : decode cL_law 591 = .ok (.iaload, 1) := zq_0 zo_46 zkL_law_576 15 rfl rfl
theorem dL_law_592 : decode cL_law 592 = .ok (.aload_n 0, 1) := zq_0 zo_42 zkL_law_576 16 rfl rfl
theorem dL_law_593 : decode cL_law 593 = .ok (.iload_n 3, 1) := zq_0 zo_29 zkL_law_576 17 rfl rfl
theorem dL_law_594 : decode cL_law 594 = .ok (.iconst 5, 1) := zq_0 zo_8 zkL_law_576 18 rfl rfl
theorem dL_law_595 : decode cL_law 595 = .ok (.iadd, 1) := zq_0 zo_96 zkL_law_576 19 rfl rfl
theorem dL_law_596 : decode cL_law 596 = .ok (.iaload, 1) := zq_0 zo_46 zkL_law_576 20 rfl rfl
theorem dL_law_597 : decode cL_law 597 = .ok (.invokevirtual 53, 3) := zq_2 zo_182 zkL_law_576 21 rfl rfl 0 53 rfl rfl _ rfl
theorem dL_law_600 : decode cL_law 600 = .ok (.pop, 1) := zq_0 zo_87 zkL_law_576 24 rfl rfl
theorem dL_law_601 : decode cL_law 601 = .ok (.aload_n 2, 1) := zq_0 zo_44 zkL_law_576 25 rfl rfl
theorem dL_law_602 : decode cL_law 602 = .ok (.aload_n 0, 1) := zq_0 zo_42 zkL_law_576 26 rfl rfl
theorem dL_law_603 : decode cL_law 603 = .ok (.iload_n 3, 1) := zq_0 zo_29 zkL_law_576 27 rfl rfl
theorem dL_law_604 : decode cL_law 604 = .ok (.iconst 1, 1) := zq_0 zo_4 zkL_law_576 28 rfl rfl
theorem dL_law_605 : decode cL_law 605 = .ok (.iadd, 1) := zq_0 zo_96 zkL_law_576 29 rfl rfl
theorem dL_law_606 : decode cL_law 606 = .ok (.iaload, 1) := zq_0 zo_46 zkL_law_576 30 rfl rfl
theorem dL_law_607 : decode cL_law 607 = .ok (.aload_n 0, 1) := zq_0 zo_42 zkL_law_576 31 rfl rfl
theorem zkL_law_608 : zqc cL_law 608 [29, 5, 96, 46, 42, 29, 6, 96, 46, 42, 29, 7, 96, 46, 42, 29, 8, 96, 46, 182, 0, 56, 87, 167, 4, 181, 43, 42, 29, 4, 96, 46, 42, 29] := zq_of 34 (by decide +kernel)
theorem dL_law_608 : decode cL_law 608 = .ok (.iload_n 3, 1) := zq_0 zo_29 zkL_law_608 0 rfl rfl
theorem dL_law_609 : decode cL_law 609 = .ok (.iconst 2, 1) := zq_0 zo_5 zkL_law_608 1 rfl rfl
theorem dL_law_610 : decode cL_law 610 = .ok (.iadd, 1) := zq_0 zo_96 zkL_law_608 2 rfl rfl
theorem dL_law_611 : decode cL_law 611 = .ok (.iaload, 1) := zq_0 zo_46 zkL_law_608 3 rfl rfl
theorem dL_law_612 : decode cL_law 612 = .ok (.aload_n 0, 1) := zq_0 zo_42 zkL_law_608 4 rfl rfl
theorem dL_law_613 : decode cL_law 613 = .ok (.iload_n 3, 1) := zq_0 zo_29 zkL_law_608 5 rfl rfl
theorem dL_law_614 : decode cL_law 614 = .ok (.iconst 3, 1) := zq_0 zo_6 zkL_law_608 6 rfl rfl
theorem dL_law_615 : decode cL_law 615 = .ok (.iadd, 1) := zq_0 zo_96 zkL_law_608 7 rfl rfl
theorem dL_law_616 : decode cL_law 616 = .ok (.iaload, 1) := zq_0 zo_46 zkL_law_608 8 rfl rfl
theorem dL_law_617 : decode cL_law 617 = .ok (.aload_n 0, 1) := zq_0 zo_42 zkL_law_608 9 rfl rfl
theorem dL_law_618 : decode cL_law 618 = .ok (.iload_n 3, 1) := zq_0 zo_29 zkL_law_608 10 rfl rfl
theorem dL_law_619 : decode cL_law 619 = .ok (.iconst 4, 1) := zq_0 zo_7 zkL_law_608 11 rfl rfl
theorem dL_law_620 : decode cL_law 620 = .ok (.iadd, 1) := zq_0 zo_96 zkL_law_608 12 rfl rfl
theorem dL_law_621 : decode cL_law 621 = .ok (.iaload, 1) := zq_0 zo_46 zkL_law_608 13 rfl rfl
theorem dL_law_622 : decode cL_law 622 = .ok (.aload_n 0, 1) := zq_0 zo_42 zkL_law_608 14 rfl rfl
theorem dL_law_623 : decode cL_law 623 = .ok (.iload_n 3, 1) := zq_0 zo_29 zkL_law_608 15 rfl rfl
theorem dL_law_624 : decode cL_law 624 = .ok (.iconst 5, 1) := zq_0 zo_8 zkL_law_608 16 rfl rfl
theorem dL_law_625 : decode cL_law 625 = .ok (.iadd, 1) := zq_0 zo_96 zkL_law_608 17 rfl rfl
theorem dL_law_626 : decode cL_law 626 = .ok (.iaload, 1) := zq_0 zo_46 zkL_law_608 18 rfl rfl
theorem dL_law_627 : decode cL_law 627 = .ok (.invokevirtual 56, 3) := zq_2 zo_182 zkL_law_608 19 rfl rfl 0 56 rfl rfl _ rfl
theorem dL_law_630 : decode cL_law 630 = .ok (.pop, 1) := zq_0 zo_87 zkL_law_608 22 rfl rfl
theorem dL_law_631 : decode cL_law 631 = .ok (.goto 1205, 3) := zq_2s zo_167 zkL_law_608 23 rfl rfl 4 181 rfl rfl _ (by decide +kernel)
theorem dL_law_634 : decode cL_law 634 = .ok (.aload_n 1, 1) := zq_0 zo_43 zkL_law_608 26 rfl rfl
theorem dL_law_635 : decode cL_law 635 = .ok (.aload_n 0, 1) := zq_0 zo_42 zkL_law_608 27 rfl rfl
theorem dL_law_636 : decode cL_law 636 = .ok (.iload_n 3, 1) := zq_0 zo_29 zkL_law_608 28 rfl rfl
theorem dL_law_637 : decode cL_law 637 = .ok (.iconst 1, 1) := zq_0 zo_4 zkL_law_608 29 rfl rfl
theorem dL_law_638 : decode cL_law 638 = .ok (.iadd, 1) := zq_0 zo_96 zkL_law_608 30 rfl rfl
theorem dL_law_639 : decode cL_law 639 = .ok (.iaload, 1) := zq_0 zo_46 zkL_law_608 31 rfl rfl
theorem zkL_law_640 : zqc cL_law 640 [42, 29, 5, 96, 46, 42, 29, 6, 96, 46, 42, 29, 7, 96, 46, 182, 0, 57, 87, 44, 42, 29, 4, 96, 46, 42, 29, 5, 96, 46, 42, 29, 6, 96] := zq_of 34 (by decide +kernel)
theorem dL_law_640 : decode cL_law 640 = .ok (.aload_n 0, 1) := zq_0 zo_42 zkL_law_640 0 rfl rfl
theorem dL_law_641 : decode cL_law 641 = .ok (.iload_n 3, 1) := zq_0 zo_29 zkL_law_640 1 rfl rfl
theorem dL_law_642 : decode cL_law 642 = .ok (.iconst 2, 1) := zq_0 zo_5 zkL_law_640 2 rfl rfl
theorem dL_law_643 : decode cL_law 643 = .ok (.iadd, 1) := zq_0 zo_96 zkL_law_640 3 rfl rfl
theorem dL_law_644 : decode cL_law 644 = .ok (.iaload, 1) := zq_0 zo_46 zkL_law_640 4 rfl rfl
theorem dL_law_645 : decode cL_law 645 = .ok (.aload_n 0, 1) := zq_0 zo_42 zkL_law_640 5 rfl rfl
theorem dL_law_646 : decode cL_law 646 = .ok (.iload_n 3, 1) := zq_0 zo_29 zkL_law_640 6 rfl rfl
theorem dL_law_647 : decode cL_law 647 = .ok (.iconst 3, 1) := zq_0 zo_6 zkL_law_640 7 rfl rfl
theorem dL_law_648 : decode cL_law 648 = .ok (.iadd, 1) := zq_0 zo_96 zkL_law_640 8 rfl rfl
theorem dL_law_649 : decode cL_law 649 = .ok (.iaload, 1) := zq_0 zo_46 zkL_law_640 9 rfl rfl
theorem dL_law_650 : decode cL_law 650 = .ok (.aload_n 0, 1) := zq_0 zo_42 zkL_law_640 10 rfl rfl
theorem dL_law_651 : decode cL_law 651 = .ok (.iload_n 3, 1) := zq_0 zo_29 zkL_law_640 11 rfl rfl
theorem dL_law_652 : decode cL_law 652 = .ok (.iconst 4, 1) := zq_0 zo_7 zkL_law_640 12 rfl rfl
theorem dL_law_653 : decode cL_law 653 = .ok (.iadd, 1) := zq_0 zo_96 zkL_law_640 13 rfl rfl
theorem dL_law_654 : decode cL_law 654 = .ok (.iaload, 1) := zq_0 zo_46 zkL_law_640 14 rfl rfl
theorem dL_law_655 : decode cL_law 655 = .ok (.invokevirtual 57, 3) := zq_2 zo_182 zkL_law_640 15 rfl rfl 0 57 rfl rfl _ rfl
theorem dL_law_658 : decode cL_law 658 = .ok (.pop, 1) := zq_0 zo_87 zkL_law_640 18 rfl rfl
theorem dL_law_659 : decode cL_law 659 = .ok (.aload_n 2, 1) := zq_0 zo_44 zkL_law_640 19 rfl rfl
theorem dL_law_660 : decode cL_law 660 = .ok (.aload_n 0, 1) := zq_0 zo_42 zkL_law_640 20 rfl rfl
theorem dL_law_661 : decode cL_law 661 = .ok (.iload_n 3, 1) := zq_0 zo_29 zkL_law_640 21 rfl rfl
theorem dL_law_662 : decode cL_law 662 = .ok (.iconst 1, 1) := zq_0 zo_4 zkL_law_640 22 rfl rfl
theorem dL_law_663 : decode cL_law 663 = .ok (.iadd, 1) := zq_0 zo_96 zkL_law_640 23 rfl rfl
theorem dL_law_664 : decode cL_law 664 = .ok (.iaload, 1) := zq_0 zo_46 zkL_law_640 24 rfl rfl
theorem dL_law_665 : decode cL_law 665 = .ok (.aload_n 0, 1) := zq_0 zo_42 zkL_law_640 25 rfl rfl
theorem dL_law_666 : decode cL_law 666 = .ok (.iload_n 3, 1) := zq_0 zo_29 zkL_law_640 26 rfl rfl
theorem dL_law_667 : decode cL_law 667 = .ok (.iconst 2, 1) := zq_0 zo_5 zkL_law_640 27 rfl rfl
theorem dL_law_668 : decode cL_law 668 = .ok (.iadd, 1) := zq_0 zo_96 zkL_law_640 28 rfl rfl
theorem dL_law_669 : decode cL_law 669 = .ok (.iaload, 1) := zq_0 zo_46 zkL_law_640 29 rfl rfl
theorem dL_law_670 : decode cL_law 670 = .ok (.aload_n 0, 1) := zq_0 zo_42 zkL_law_640 30 rfl rfl
theorem dL_law_671 : decode cL_law 671 = .ok (.iload_n 3, 1) := zq_0 zo_29 zkL_law_640 31 rfl rfl
theorem zkL_law_672 : zqc cL_law 672 [6, 96, 46, 42, 29, 7, 96, 46, 182, 0, 61, 87, 167, 4, 128, 43, 42, 29, 4, 96, 46, 42, 29, 5, 96, 46, 42, 29, 6, 96, 46, 182, 0, 62] := zq_of 34 (by decide +kernel)
theorem dL_law_672 : decode cL_law 672 = .ok (.iconst 3, 1) := zq_0 zo_6 zkL_law_672 0 rfl rfl
theorem dL_law_673 : decode cL_law 673 = .ok (.iadd, 1) := zq_0 zo_96 zkL_law_672 1 rfl rfl
theorem dL_law_674 : decode cL_law 674 = .ok (.iaload, 1) := zq_0 zo_46 zkL_law_672 2 rfl rfl
theorem dL_law_675 : decode cL_law 675 = .ok (.aload_n 0, 1) := zq_0 zo_42 zkL_law_672 3 rfl rfl
theorem dL_law_676 : decode cL_law 676 = .ok (.iload_n 3, 1) := zq_0 zo_29 zkL_law_672 4 rfl rfl
theorem dL_law_677 : decode cL_law 677 = .ok (.iconst 4, 1) := zq_0 zo_7 zkL_law_672 5 rfl rfl
theorem dL_law_678 : decode cL_law 678 = .ok (.iadd, 1) := zq_0 zo_96 zkL_law_672 6 rfl rfl
theorem dL_law_679 : decode cL_law 679 = .ok (.iaload, 1) := zq_0 zo_46 zkL_law_672 7 rfl rfl
theorem dL_law_680 : decode cL_law 680 = .ok (.invokevirtual 61, 3) := zq_2 zo_182 zkL_law_672 8 rfl rfl 0 61 rfl rfl _ rfl
theorem dL_law_683 : decode cL_law 683 = .ok (.pop, 1) := zq_0 zo_87 zkL_law_672 11 rfl rfl
theorem dL_law_684 : decode cL_law 684 = .ok (.goto 1152, 3) := zq_2s zo_167 zkL_law_672 12 rfl rfl 4 128 rfl rfl _ (by decide +kernel)
theorem dL_law_687 : decode cL_law 687 = .ok (.aload_n 1, 1) := zq_0 zo_43 zkL_law_672 15 rfl rfl
theorem dL_law_688 : decode cL_law 688 = .ok (.aload_n 0, 1) := zq_0 zo_42 zkL_law_672 16 rfl rfl
theorem dL_law_689 : decode cL_law 689 = .ok (.iload_n 3, 1) := zq_0 zo_29 zkL_law_672 17 rfl rfl
theorem dL_law_690 : decode cL_law 690 = .ok (.iconst 1, 1) := zq_0 zo_4 zkL_law_672 18 rfl rfl
theorem dL_law_691 : decode cL_law 691 = .ok (.iadd, 1) := zq_0 zo_96 zkL_law_672 19 rfl rfl
theorem dL_law_692 : decode cL_law 692 = .ok (.iaload, 1) := zq_0 zo_46 zkL_law_672 20 rfl rfl
theorem dL_law_693 : decode cL_law 693 = .ok (.aload_n 0, 1) := zq_0 zo_42 zkL_law_672 21 rfl rfl
theorem dL_law_694 : decode cL_law 694 = .ok (.iload_n 3, 1) := zq_0 zo_29 zkL_law_672 22 rfl rfl
theorem dL_law_695 : decode cL_law 695 = .ok (.iconst 2, 1) := zq_0 zo_5 zkL_law_672 23 rfl rfl
theorem dL_law_696 : decode cL_law 696 = .ok (.iadd, 1) := zq_0 zo_96 zkL_law_672 24 rfl rfl
theorem dL_law_697 : decode cL_law 697 = .ok (.iaload, 1) := zq_0 zo_46 zkL_law_672 25 rfl rfl
theorem dL_law_698 : decode cL_law 698 = .ok (.aload_n 0, 1) := zq_0 zo_42 zkL_law_672 26 rfl rfl
theorem dL_law_699 : decode cL_law 699 = .ok (.iload_n 3, 1) := zq_0 zo_29 zkL_law_672 27 rfl rfl
theorem dL_law_700 : decode cL_law 700 = .ok (.iconst 3, 1) := zq_0 zo_6 zkL_law_672 28 rfl rfl
theorem dL_law_701 : decode cL_law 701 = .ok (.iadd, 1) := zq_0 zo_96 zkL_law_672 29 rfl rfl
theorem dL_law_702 : decode cL_law 702 = .ok (.iaload, 1) := zq_0 zo_46 zkL_law_672 30 rfl rfl
theorem dL_law_703 : decode cL_law 703 = .ok (.invokevirtual 62, 3) := zq_2 zo_182 zkL_law_672 31 rfl rfl 0 62 rfl rfl _ rfl
theorem zkL_law_704 : zqc cL_law 704 [0, 62, 87, 44, 42, 29, 4, 96, 46, 42, 29, 5, 96, 46, 42, 29, 6, 96, 46, 182, 0, 65, 87, 167, 4, 85, 43, 42, 29, 4, 96, 46, 42, 29] := zq_of 34 (by decide +kernel)
theorem dL_law_706 : decode cL_law 706 = .ok (.pop, 1) := zq_0 zo_87 zkL_law_704 2 rfl rfl
theorem dL_law_707 : decode cL_law 707 = .ok (.aload_n 2, 1) := zq_0 zo_44 zkL_law_704 3 rfl rfl
theorem dL_law_708 : decode cL_law 708 = .ok (.aload_n 0, 1) := zq_0 zo_42 zkL_law_704 4 rfl rfl
theorem dL_law_709 : decode cL_law 709 = .ok (.iload_n 3, 1) := zq_0 zo_29 zkL_law_704 5 rfl rfl
theorem dL_law_710 : decode cL_law 710 = .ok (.iconst 1, 1) := zq_0 zo_4 zkL_law_704 6 rfl rfl
theorem dL_law_711 : decode cL_law 711 = .ok (.iadd, 1) := zq_0 zo_96 zkL_law_704 7 rfl rfl
theorem dL_law_712 : decode cL_law 712 = .ok (.iaload, 1) := zq_0 zo_46 zkL_law_704 8 rfl rfl
theorem dL_law_713 : decode cL_law 713 = .ok (.aload_n 0, 1) := zq_0 zo_42 zkL_law_704 9 rfl rfl
theorem dL_law_714 : decode cL_law 714 = .ok (.iload_n 3, 1) := zq_0 zo_29 zkL_law_704 10 rfl rfl
theorem dL_law_715 : decode cL_law 715 = .ok (.iconst 2, 1) := zq_0 zo_5 zkL_law_704 11 rfl rfl
theorem dL_law_716 : decode cL_law 716 = .ok (.iadd, 1) := zq_0 zo_96 zkL_law_704 12 rfl rfl
theorem dL_law_717 : decode cL_law 717 = .ok (.iaload, 1) := zq_0 zo_46 zkL_law_704 13 rfl rfl
theorem dL_law_718 : decode cL_law 718 = .ok (.aload_n 0, 1) := zq_0 zo_42 zkL_law_704 14 rfl rfl
theorem dL_law_719 : decode cL_law 719 = .ok (.iload_n 3, 1) := zq_0 zo_29 zkL_law_704 15 rfl rfl
theorem dL_law_720 : decode cL_law 720 = .ok (.iconst 3, 1) := zq_0 zo_6 zkL_law_704 16 rfl rfl
theorem dL_law_721 : decode cL_law 721 = .ok (.iadd, 1) := zq_0 zo_96 zkL_law_704 17 rfl rfl
theorem dL_law_722 : decode cL_law 722 = .ok (.iaload, 1) := zq_0 zo_46 zkL_law_704 18 rfl rfl
theorem dL_law_723 : decode cL_law 723 = .ok (.invokevirtual 65, 3) := zq_2 zo_182 zkL_law_704 19 rfl rfl 0 65 rfl rfl _ rfl
theorem dL_law_726 : decode cL_law 726 = .ok (.pop, 1) := zq_0 zo_87 zkL_law_704 22 rfl rfl
theorem dL_law_727 : decode cL_law 727 = .ok (.goto 1109, 3) := zq_2s zo_167 zkL_law_704 23 rfl rfl 4 85 rfl rfl _ (by decide +kernel)
theorem dL_law_730 : decode cL_law 730 = .ok (.aload_n 1, 1) := zq_0 zo_43 zkL_law_704 26 rfl rfl
theorem dL_law_731 : decode cL_law 731 = .ok (.aload_n 0, 1) := zq_0 zo_42 zkL_law_704 27 rfl rfl
theorem dL_law_732 : decode cL_law 732 = .ok (.iload_n 3, 1) := zq_0 zo_29 zkL_law_704 28 rfl rfl
theorem dL_law_733 : decode cL_law 733 = .ok (.iconst 1, 1) := zq_0 zo_4 zkL_law_704 29 rfl rfl
theorem dL_law_734 : decode cL_law 734 = .ok (.iadd, 1) := zq_0 zo_96 zkL_law_704 30 rfl rfl
theorem dL_law_735 : decode cL_law 735 = .ok (.iaload, 1) := zq_0 zo_46 zkL_law_704 31 rfl rfl
theorem zkL_law_736 : zqc cL_law 736 [42, 29, 5, 96, 46, 42, 29, 6, 96, 46, 42, 29, 7, 96, 46, 182, 0, 66, 87, 44, 42, 29, 4, 96, 46, 42, 29, 5, 96, 46, 42, 29, 6, 96] := zq_of 34 (by decide +kernel)
theorem dL_law_736 : decode cL_law 736 = .ok (.aload_n 0, 1) := zq_0 zo_42 zkL_law_736 0 rfl rfl
theorem dL_law_737 : decode cL_law 737 = .ok (.iload_n 3, 1) := zq_0 zo_29 zkL_law_736 1 rfl rfl
theorem dL_law_738 : decode cL_law 738 = .ok (.iconst 2, 1) := zq_0 zo_5 zkL_law_736 2 rfl rfl
theorem dL_law_739 : decode cL_law 739 = .ok (.iadd, 1) := zq_0 zo_96 zkL_law_736 3 rfl rfl
theorem dL_law_740 : decode cL_law 740 = .ok (.iaload, 1) := zq_0 zo_46 zkL_law_736 4 rfl rfl
theorem dL_law_741 : decode cL_law 741 = .ok (.aload_n 0, 1) := zq_0 zo_42 zkL_law_736 5 rfl rfl
theorem dL_law_742 : decode cL_law 742 = .ok (.iload_n 3, 1) := zq_0 zo_29 zkL_law_736 6 rfl rfl
theorem dL_law_743 : decode cL_law 743 = .ok (.iconst 3, 1) := zq_0 zo_6 zkL_law_736 7 rfl rfl
theorem dL_law_744 : decode cL_law 744 = .ok (.iadd, 1) := zq_0 zo_96 zkL_law_736 8 rfl rfl
theorem dL_law_745 : decode cL_law 745 = .ok (.iaload, 1) := zq_0 zo_46 zkL_law_736 9 rfl rfl
theorem dL_law_746 : decode cL_law 746 = .ok (.aload_n 0, 1) := zq_0 zo_42 zkL_law_736 10 rfl rfl
theorem dL_law_747 : decode cL_law 747 = .ok (.iload_n 3, 1) := zq_0 zo_29 zkL_law_736 11 rfl rfl
theorem dL_law_748 : decode cL_law 748 = .ok (.iconst 4, 1) := zq_0 zo_7 zkL_law_736 12 rfl rfl
theorem dL_law_749 : decode cL_law 749 = .ok (.iadd, 1) := zq_0 zo_96 zkL_law_736 13 rfl rfl
theorem dL_law_750 : decode cL_law 750 = .ok (.iaload, 1) := zq_0 zo_46 zkL_law_736 14 rfl rfl
theorem dL_law_751 : decode cL_law 751 = .ok (.invokevirtual 66, 3) := zq_2 zo_182 zkL_law_736 15 rfl rfl 0 66 rfl rfl _ rfl
theorem dL_law_754 : decode cL_law 754 = .ok (.pop, 1) := zq_0 zo_87 zkL_law_736 18 rfl rfl
theorem dL_law_755 : decode cL_law 755 = .ok (.aload_n 2, 1) := zq_0 zo_44 zkL_law_736 19 rfl rfl
theorem dL_law_756 : decode cL_law 756 = .ok (.aload_n 0, 1) := zq_0 zo_42 zkL_law_736 20 rfl rfl
theorem dL_law_757 : decode cL_law 757 = .ok (.iload_n 3, 1) := zq_0 zo_29 zkL_law_736 21 rfl rfl
theorem dL_law_758 : decode cL_law 758 = .ok (.iconst 1, 1) := zq_0 zo_4 zkL_law_736 22 rfl rfl
theorem dL_law_759 : decode cL_law 759 = .ok (.iadd, 1) := zq_0 zo_96 zkL_law_736 23 rfl rfl
theorem dL_law_760 : decode cL_law 760 = .ok (.iaload, 1) := zq_0 zo_46 zkL_law_736 24 rfl rfl
theorem dL_law_761 : decode cL_law 761 = .ok (.aload_n 0, 1) := zq_0 zo_42 zkL_law_736 25 rfl rfl
theorem dL_law_762 : decode cL_law 762 = .ok (.iload_n 3, 1) := zq_0 zo_29 zkL_law_736 26 rfl rfl
theorem dL_law_763 : decode cL_law 763 = .ok (.iconst 2, 1) := zq_0 zo_5 zkL_law_736 27 rfl rfl
theorem dL_law_764 : decode cL_law 764 = .ok (.iadd, 1) := zq_0 zo_96 zkL_law_736 28 rfl rfl
theorem dL_law_765 : decode cL_law 765 = .ok (.iaload, 1) := zq_0 zo_46 zkL_law_736 29 rfl rfl
theorem dL_law_766 : decode cL_law 766 = .ok (.aload_n 0, 1) := zq_0 zo_42 zkL_law_736 30 rfl rfl
theorem dL_law_767 : decode cL_law 767 = .ok (.iload_n 3, 1) := zq_0 zo_29 zkL_law_736 31 rfl rfl
theorem zkL_law_768 : zqc cL_law 768 [6, 96, 46, 42, 29, 7, 96, 46, 182, 0, 69, 87, 167, 4, 32, 43, 42, 29, 4, 96, 46, 42, 29, 5, 96, 46, 42, 29, 6, 96, 46, 153, 0, 7] := zq_of 34 (by decide +kernel)
theorem dL_law_768 : decode cL_law 768 = .ok (.iconst 3, 1) := zq_0 zo_6 zkL_law_768 0 rfl rfl
theorem dL_law_769 : decode cL_law 769 = .ok (.iadd, 1) := zq_0 zo_96 zkL_law_768 1 rfl rfl
theorem dL_law_770 : decode cL_law 770 = .ok (.iaload, 1) := zq_0 zo_46 zkL_law_768 2 rfl rfl
theorem dL_law_771 : decode cL_law 771 = .ok (.aload_n 0, 1) := zq_0 zo_42 zkL_law_768 3 rfl rfl
theorem dL_law_772 : decode cL_law 772 = .ok (.iload_n 3, 1) := zq_0 zo_29 zkL_law_768 4 rfl rfl
theorem dL_law_773 : decode cL_law 773 = .ok (.iconst 4, 1) := zq_0 zo_7 zkL_law_768 5 rfl rfl
theorem dL_law_774 : decode cL_law 774 = .ok (.iadd, 1) := zq_0 zo_96 zkL_law_768 6 rfl rfl
theorem dL_law_775 : decode cL_law 775 = .ok (.iaload, 1) := zq_0 zo_46 zkL_law_768 7 rfl rfl
theorem dL_law_776 : decode cL_law 776 = .ok (.invokevirtual 69, 3) := zq_2 zo_182 zkL_law_768 8 rfl rfl 0 69 rfl rfl _ rfl
theorem dL_law_779 : decode cL_law 779 = .ok (.pop, 1) := zq_0 zo_87 zkL_law_768 11 rfl rfl
theorem dL_law_780 : decode cL_law 780 = .ok (.goto 1056, 3) := zq_2s zo_167 zkL_law_768 12 rfl rfl 4 32 rfl rfl _ (by decide +kernel)
theorem dL_law_783 : decode cL_law 783 = .ok (.aload_n 1, 1) := zq_0 zo_43 zkL_law_768 15 rfl rfl
theorem dL_law_784 : decode cL_law 784 = .ok (.aload_n 0, 1) := zq_0 zo_42 zkL_law_768 16 rfl rfl
theorem dL_law_785 : decode cL_law 785 = .ok (.iload_n 3, 1) := zq_0 zo_29 zkL_law_768 17 rfl rfl
theorem dL_law_786 : decode cL_law 786 = .ok (.iconst 1, 1) := zq_0 zo_4 zkL_law_768 18 rfl rfl
theorem dL_law_787 : decode cL_law 787 = .ok (.iadd, 1) := zq_0 zo_96 zkL_law_768 19 rfl rfl
theorem dL_law_788 : decode cL_law 788 = .ok (.iaload, 1) := zq_0 zo_46 zkL_law_768 20 rfl rfl
theorem dL_law_789 : decode cL_law 789 = .ok (.aload_n 0, 1) := zq_0 zo_42 zkL_law_768 21 rfl rfl
theorem dL_law_790 : decode cL_law 790 = .ok (.iload_n 3, 1) := zq_0 zo_29 zkL_law_768 22 rfl rfl
theorem dL_law_791 : decode cL_law 791 = .ok (.iconst 2, 1) := zq_0 zo_5 zkL_law_768 23 rfl rfl
theorem dL_law_792 : decode cL_law 792 = .ok (.iadd, 1) := zq_0 zo_96 zkL_law_768 24 rfl rfl
theorem dL_law_793 : decode cL_law 793 = .ok (.iaload, 1) := zq_0 zo_46 zkL_law_768 25 rfl rfl
theorem dL_law_794 : decode cL_law 794 = .ok (.aload_n 0, 1) := zq_0 zo_42 zkL_law_768 26 rfl rfl
theorem dL_law_795 : decode cL_law 795 = .ok (.iload_n 3, 1) := zq_0 zo_29 zkL_law_768 27 rfl rfl
theorem dL_law_796 : decode cL_law 796 = .ok (.iconst 3, 1) := zq_0 zo_6 zkL_law_768 28 rfl rfl
theorem dL_law_797 : decode cL_law 797 = .ok (.iadd, 1) := zq_0 zo_96 zkL_law_768 29 rfl rfl
theorem dL_law_798 : decode cL_law 798 = .ok (.iaload, 1) := zq_0 zo_46 zkL_law_768 30 rfl rfl
theorem dL_law_799 : decode cL_law 799 = .ok (.ifCond .eq 7, 3) := zq_2s zo_153 zkL_law_768 31 rfl rfl 0 7 rfl rfl _ (by decide +kernel)
theorem zkL_law_800 : zqc cL_law 800 [0, 7, 4, 167, 0, 4, 3, 182, 0, 70, 88, 44, 42, 29, 4, 96, 46, 42, 29, 5, 96, 46, 42, 29, 6, 96, 46, 153, 0, 7, 4, 167, 0, 4] := zq_of 34 (by decide +kernel)
theorem dL_law_802 : decode cL_law 802 = .ok (.iconst 1, 1) := zq_0 zo_4 zkL_law_800 2 rfl rfl
theorem dL_law_803 : decode cL_law 803 = .ok (.goto 4, 3) := zq_2s zo_167 zkL_law_800 3 rfl rfl 0 4 rfl rfl _ (by decide +kernel)
theorem dL_law_806 : decode cL_law 806 = .ok (.iconst 0, 1) := zq_0 zo_3 zkL_law_800 6 rfl rfl
theorem dL_law_807 : decode cL_law 807 = .ok (.invokevirtual 70, 3) := zq_2 zo_182 zkL_law_800 7 rfl rfl 0 70 rfl rfl _ rfl
theorem dL_law_810 : decode cL_law 810 = .ok (.pop2, 1) := zq_0 zo_88 zkL_law_800 10 rfl rfl
theorem dL_law_811 : decode cL_law 811 = .ok (.aload_n 2, 1) := zq_0 zo_44 zkL_law_800 11 rfl rfl
theorem dL_law_812 : decode cL_law 812 = .ok (.aload_n 0, 1) := zq_0 zo_42 zkL_law_800 12 rfl rfl
theorem dL_law_813 : decode cL_law 813 = .ok (.iload_n 3, 1) := zq_0 zo_29 zkL_law_800 13 rfl rfl
theorem dL_law_814 : decode cL_law 814 = .ok (.iconst 1, 1) := zq_0 zo_4 zkL_law_800 14 rfl rfl
theorem dL_law_815 : decode cL_law 815 = .ok (.iadd, 1) := zq_0 zo_96 zkL_law_800 15 rfl rfl
theorem dL_law_816 : decode cL_law 816 = .ok (.iaload, 1) := zq_0 zo_46 zkL_law_800 16 rfl rfl
theorem dL_law_817 : decode cL_law 817 = .ok (.aload_n 0, 1) := zq_0 zo_42 zkL_law_800 17 rfl rfl
theorem dL_law_818 : decode cL_law 818 = .ok (.iload_n 3, 1) := zq_0 zo_29 zkL_law_800 18 rfl rfl
theorem dL_law_819 : decode cL_law 819 = .ok (.iconst 2, 1) := zq_0 zo_5 zkL_law_800 19 rfl rfl
theorem dL_law_820 : decode cL_law 820 = .ok (.iadd, 1) := zq_0 zo_96 zkL_law_800 20 rfl rfl
theorem dL_law_821 : decode cL_law 821 = .ok (.iaload, 1) := zq_0 zo_46 zkL_law_800 21 rfl rfl
theorem dL_law_822 : decode cL_law 822 = .ok (.aload_n 0, 1) := zq_0 zo_42 zkL_law_800 22 rfl rfl
theorem dL_law_823 : decode cL_law 823 = .ok (.iload_n 3, 1) := zq_0 zo_29 zkL_law_800 23 rfl rfl
theorem dL_law_824 : decode cL_law 824 = .ok (.iconst 3, 1) := zq_0 zo_6 zkL_law_800 24 rfl rfl
theorem dL_law_825 : decode cL_law 825 = .ok (.iadd, 1) := zq_0 zo_96 zkL_law_800 25 rfl rfl
theorem dL_law_826 : decode cL_law 826 = .ok (.iaload, 1) := zq_0 zo_46 zkL_law_800 26 rfl rfl
theorem dL_law_827 : decode cL_law 827 = .ok (.ifCond .eq 7, 3) := zq_2s zo_153 zkL_law_800 27 rfl rfl 0 7 rfl rfl _ (by decide +kernel)
theorem dL_law_830 : decode cL_law 830 = .ok (.iconst 1, 1) := zq_0 zo_4 zkL_law_800 30 rfl rfl
theorem dL_law_831 : decode cL_law 831 = .ok (.goto 4, 3) := zq_2s zo_167 zkL_law_800 31 rfl rfl 0 4 rfl rfl _ (by decide +kernel)
theorem zkL_law_832 : zqc cL_law 832 [0, 4, 3, 182, 0, 74, 88, 167, 3, 229, 43, 42, 29, 4, 96, 46, 42, 29, 5, 96, 46, 182, 0, 75, 87, 44, 42, 29, 4, 96, 46, 42, 29, 5] := zq_of 34 (by decide +kernel)
theorem dL_law_834 : decode cL_law 834 = .ok (.iconst 0, 1) := zq_0 zo_3 zkL_law_832 2 rfl rfl
theorem dL_law_835 : decode cL_law 835 = .ok (.invokevirtual 74, 3) := zq_2 zo_182 zkL_law_832 3 rfl rfl 0 74 rfl rfl _ rfl
theorem dL_law_838 : decode cL_law 838 = .ok (.pop2, 1) := zq_0 zo_88 zkL_law_832 6 rfl rfl
theorem dL_law_839 : decode cL_law 839 = .ok (.goto 997, 3) := zq_2s zo_167 zkL_law_832 7 rfl rfl 3 229 rfl rfl _ (by decide +kernel)
theorem dL_law_842 : decode cL_law 842 = .ok (.aload_n 1, 1) := zq_0 zo_43 zkL_law_832 10 rfl rfl
theorem dL_law_843 : decode cL_law 843 = .ok (.aload_n 0, 1) := zq_0 zo_42 zkL_law_832 11 rfl rfl
theorem dL_law_844 : decode cL_law 844 = .ok (.iload_n 3, 1) := zq_0 zo_29 zkL_law_832 12 rfl rfl
theorem dL_law_845 : decode cL_law 845 = .ok (.iconst 1, 1) := zq_0 zo_4 zkL_law_832 13 rfl rfl
theorem dL_law_846 : decode cL_law 846 = .ok (.iadd, 1) := zq_0 zo_96 zkL_law_832 14 rfl rfl
theorem dL_law_847 : decode cL_law 847 = .ok (.iaload, 1) := zq_0 zo_46 zkL_law_832 15 rfl rfl
theorem dL_law_848 : decode cL_law 848 = .ok (.aload_n 0, 1) := zq_0 zo_42 zkL_law_832 16 rfl rfl
theorem dL_law_849 : decode cL_law 849 = .ok (.iload_n 3, 1) := zq_0 zo_29 zkL_law_832 17 rfl rfl
theorem dL_law_850 : decode cL_law 850 = .ok (.iconst 2, 1) := zq_0 zo_5 zkL_law_832 18 rfl rfl
theorem dL_law_851 : decode cL_law 851 = .ok (.iadd, 1) := zq_0 zo_96 zkL_law_832 19 rfl rfl
theorem dL_law_852 : decode cL_law 852 = .ok (.iaload, 1) := zq_0 zo_46 zkL_law_832 20 rfl rfl
theorem dL_law_853 : decode cL_law 853 = .ok (.invokevirtual 75, 3) := zq_2 zo_182 zkL_law_832 21 rfl rfl 0 75 rfl rfl _ rfl
theorem dL_law_856 : decode cL_law 856 = .ok (.pop, 1) := zq_0 zo_87 zkL_law_832 24 rfl rfl
theorem dL_law_857 : decode cL_law 857 = .ok (.aload_n 2, 1) := zq_0 zo_44 zkL_law_832 25 rfl rfl
theorem dL_law_858 : decode cL_law 858 = .ok (.aload_n 0, 1) := zq_0 zo_42 zkL_law_832 26 rfl rfl
theorem dL_law_859 : decode cL_law 859 = .ok (.iload_n 3, 1) := zq_0 zo_29 zkL_law_832 27 rfl rfl
theorem dL_law_860 : decode cL_law 860 = .ok (.iconst 1, 1) := zq_0 zo_4 zkL_law_832 28 rfl rfl
theorem dL_law_861 : decode cL_law 861 = .ok (.iadd, 1) := zq_0 zo_96 zkL_law_832 29 rfl rfl
theorem dL_law_862 : decode cL_law 862 = .ok (.iaload, 1) := zq_0 zo_46 zkL_law_832 30 rfl rfl
theorem dL_law_863 : decode cL_law 863 = .ok (.aload_n 0, 1) := zq_0 zo_42 zkL_law_832 31 rfl rfl
theorem zkL_law_864 : zqc cL_law 864 [29, 5, 96, 46, 182, 0, 78, 87, 167, 3, 196, 43, 42, 29, 4, 96, 46, 42, 29, 5, 96, 46, 42, 29, 6, 96, 46, 42, 29, 7, 96, 46, 42, 29] := zq_of 34 (by decide +kernel)
theorem dL_law_864 : decode cL_law 864 = .ok (.iload_n 3, 1) := zq_0 zo_29 zkL_law_864 0 rfl rfl
theorem dL_law_865 : decode cL_law 865 = .ok (.iconst 2, 1) := zq_0 zo_5 zkL_law_864 1 rfl rfl
theorem dL_law_866 : decode cL_law 866 = .ok (.iadd, 1) := zq_0 zo_96 zkL_law_864 2 rfl rfl
theorem dL_law_867 : decode cL_law 867 = .ok (.iaload, 1) := zq_0 zo_46 zkL_law_864 3 rfl rfl
theorem dL_law_868 : decode cL_law 868 = .ok (.invokevirtual 78, 3) := zq_2 zo_182 zkL_law_864 4 rfl rfl 0 78 rfl rfl _ rfl
theorem dL_law_871 : decode cL_law 871 = .ok (.pop, 1) := zq_0 zo_87 zkL_law_864 7 rfl rfl
theorem dL_law_872 : decode cL_law 872 = .ok (.goto 964, 3) := zq_2s zo_167 zkL_law_864 8 rfl rfl 3 196 rfl rfl _ (by decide +kernel)
theorem dL_law_875 : decode cL_law 875 = .ok (.aload_n 1, 1) := zq_0 zo_43 zkL_law_864 11 rfl rfl
theorem dL_law_876 : decode cL_law 876 = .ok (.aload_n 0, 1) := zq_0 zo_42 zkL_law_864 12 rfl rfl
theorem dL_law_877 : decode cL_law 877 = .ok (.iload_n 3, 1) := zq_0 zo_29 zkL_law_864 13 rfl rfl
theorem dL_law_878 : decode cL_law 878 = .ok (.iconst 1, 1) := zq_0 zo_4 zkL_law_864 14 rfl rfl
theorem dL_law_879 : decode cL_law 879 = .ok (.iadd, 1) := zq_0 zo_96 zkL_law_864 15 rfl rfl
theorem dL_law_880 : decode cL_law 880 = .ok (.iaload, 1) := zq_0 zo_46 zkL_law_864 16 rfl rfl
theorem dL_law_881 : decode cL_law 881 = .ok (.aload_n 0, 1) := zq_0 zo_42 zkL_law_864 17 rfl rfl
theorem dL_law_882 : decode cL_law 882 = .ok (.iload_n 3, 1) := zq_0 zo_29 zkL_law_864 18 rfl rfl
theorem dL_law_883 : decode cL_law 883 = .ok (.iconst 2, 1) := zq_0 zo_5 zkL_law_864 19 rfl rfl
theorem dL_law_884 : decode cL_law 884 = .ok (.iadd, 1) := zq_0 zo_96 zkL_law_864 20 rfl rfl
theorem dL_law_885 : decode cL_law 885 = .ok (.iaload, 1) := zq_0 zo_46 zkL_law_864 21 rfl rfl
theorem dL_law_886 : decode cL_law 886 = .ok (.aload_n 0, 1) := zq_0 zo_42 zkL_law_864 22 rfl rfl
theorem dL_law_887 : decode cL_law 887 = .ok (.iload_n 3, 1) := zq_0 zo_29 zkL_law_864 23 rfl rfl
theorem dL_law_888 : decode cL_law 888 = .ok (.iconst 3, 1) := zq_0 zo_6 zkL_law_864 24 rfl rfl
theorem dL_law_889 : decode cL_law 889 = .ok (.iadd, 1) := zq_0 zo_96 zkL_law_864 25 rfl rfl
theorem dL_law_890 : decode cL_law 890 = .ok (.iaload, 1) := zq_0 zo_46 zkL_law_864 26 rfl rfl
theorem dL_law_891 : decode cL_law 891 = .ok (.aload_n 0, 1) := zq_0 zo_42 zkL_law_864 27 rfl rfl
theorem dL_law_892 : decode cL_law 892 = .ok (.iload_n 3, 1) := zq_0 zo_29 zkL_law_864 28 rfl rfl
theorem dL_law_893 : decode cL_law 893 = .ok (.iconst 4, 1) := zq_0 zo_7 zkL_law_864 29 rfl rfl
theorem dL_law_894 : decode cL_law 894 = .ok (.iadd, 1) := zq_0 zo_96 zkL_law_864 30 rfl rfl
theorem dL_law_895 : decode cL_law 895 = .ok (.iaload, 1) := zq_0 zo_46 zkL_law_864 31 rfl rfl
theorem zkL_law_896 : zqc cL_law 896 [42, 29, 8, 96, 46, 182, 0, 79, 87, 44, 42, 29, 4, 96, 46, 42, 29, 5, 96, 46, 42, 29, 6, 96, 46, 42, 29, 7, 96, 46, 42, 29, 8, 96] := zq_of 34 (by decide +kernel)
theorem dL_law_896 : decode cL_law 896 = .ok (.aload_n 0, 1) := zq_0 zo_42 zkL_law_896 0 rfl rfl
theorem dL_law_897 : decode cL_law 897 = .ok (.iload_n 3, 1) := zq_0 zo_29 zkL_law_896 1 rfl rfl
theorem dL_law_898 : decode cL_law 898 = .ok (.iconst 5, 1) := zq_0 zo_8 zkL_law_896 2 rfl rfl
theorem dL_law_899 : decode cL_law 899 = .ok (.iadd, 1) := zq_0 zo_96 zkL_law_896 3 rfl rfl
theorem dL_law_900 : decode cL_law 900 = .ok (.iaload, 1) := zq_0 zo_46 zkL_law_896 4 rfl rfl
theorem dL_law_901 : decode cL_law 901 = .ok (.invokevirtual 79, 3) := zq_2 zo_182 zkL_law_896 5 rfl rfl 0 79 rfl rfl _ rfl
theorem dL_law_904 : decode cL_law 904 = .ok (.pop, 1) := zq_0 zo_87 zkL_law_896 8 rfl rfl
theorem dL_law_905 : decode cL_law 905 = .ok (.aload_n 2, 1) := zq_0 zo_44 zkL_law_896 9 rfl rfl
theorem dL_law_906 : decode cL_law 906 = .ok (.aload_n 0, 1) := zq_0 zo_42 zkL_law_896 10 rfl rfl
theorem dL_law_907 : decode cL_law 907 = .ok (.iload_n 3, 1) := zq_0 zo_29 zkL_law_896 11 rfl rfl
theorem dL_law_908 : decode cL_law 908 = .ok (.iconst 1, 1) := zq_0 zo_4 zkL_law_896 12 rfl rfl
theorem dL_law_909 : decode cL_law 909 = .ok (.iadd, 1) := zq_0 zo_96 zkL_law_896 13 rfl rfl
theorem dL_law_910 : decode cL_law 910 = .ok (.iaload, 1) := zq_0 zo_46 zkL_law_896 14 rfl rfl
theorem dL_law_911 : decode cL_law 911 = .ok (.aload_n 0, 1) := zq_0 zo_42 zkL_law_896 15 rfl rfl
theorem dL_law_912 : decode cL_law 912 = .ok (.iload_n 3, 1) := zq_0 zo_29 zkL_law_896 16 rfl rfl
theorem dL_law_913 : decode cL_law 913 = .ok (.iconst 2, 1) := zq_0 zo_5 zkL_law_896 17 rfl rfl
theorem dL_law_914 : decode cL_law 914 = .ok (.iadd, 1) := zq_0 zo_96 zkL_law_896 18 rfl rfl
theorem dL_law_915 : decode cL_law 915 = .ok (.iaload, 1) := zq_0 zo_46 zkL_law_896 19 rfl rfl
theorem dL_law_916 : decode cL_law 916 = .ok (.aload_n 0, 1) := zq_0 zo_42 zkL_law_896 20 rfl rfl
theorem dL_law_917 : decode cL_law 917 = .ok (.iload_n 3, 1) := zq_0 zo_29 zkL_law_896 21 rfl rfl
theorem dL_law_918 : decode cL_law 918 = .ok (.iconst 3, 1) := zq_0 zo_6 zkL_law_896 22 rfl rfl
theorem dL_law_919 : decode cL_law 919 = .ok (.iadd, 1) := zq_0 zo_96 zkL_law_896 23 rfl rfl
theorem dL_law_920 : decode cL_law 920 = .ok (.iaload, 1) := zq_0 zo_46 zkL_law_896 24 rfl rfl
theorem dL_law_921 : decode cL_law 921 = .ok (.aload_n 0, 1) := zq_0 zo_42 zkL_law_896 25 rfl rfl
theorem dL_law_922 : decode cL_law 922 = .ok (.iload_n 3, 1) := zq_0 zo_29 zkL_law_896 26 rfl rfl
theorem dL_law_923 : decode cL_law 923 = .ok (.iconst 4, 1) := zq_0 zo_7 zkL_law_896 27 rfl rfl
theorem dL_law_924 : decode cL_law 924 = .ok (.iadd, 1) := zq_0 zo_96 zkL_law_896 28 rfl rfl
theorem dL_law_925 : decode cL_law 925 = .ok (.iaload, 1) := zq_0 zo_46 zkL_law_896 29 rfl rfl
theorem dL_law_926 : decode cL_law 926 = .ok (.aload_n 0, 1) := zq_0 zo_42 zkL_law_896 30 rfl rfl
theorem dL_law_927 : decode cL_law 927 = .ok (.iload_n 3, 1) := zq_0 zo_29 zkL_law_896 31 rfl rfl
theorem zkL_law_928 : zqc cL_law 928 [8, 96, 46, 182, 0, 82, 87, 167, 3, 133, 43, 42, 29, 4, 96, 46, 42, 29, 5, 96, 46, 42, 29, 6, 96, 46, 42, 29, 7, 96, 46, 42, 29, 8] := zq_of 34 (by decide +kernel)
theorem dL_law_928 : decode cL_law 928 = .ok (.iconst 5, 1) := zq_0 zo_8 zkL_law_928 0 rfl rfl
theorem dL_law_929 : decode cL_law 929 = .ok (.iadd, 1) := zq_0 zo_96 zkL_law_928 1 rfl rfl
theorem dL_law_930 : decode cL_law 930 = .ok (.iaload, 1) := zq_0 zo_46 zkL_law_928 2 rfl rfl
theorem dL_law_931 : decode cL_law 931 = .ok (.invokevirtual 82, 3) := zq_2 zo_182 zkL_law_928 3 rfl rfl 0 82 rfl rfl _ rfl
theorem dL_law_934 : decode cL_law 934 = .ok (.pop, 1) := zq_0 zo_87 zkL_law_928 6 rfl rfl
theorem dL_law_935 : decode cL_law 935 = .ok (.goto 901, 3) := zq_2s zo_167 zkL_law_928 7 rfl rfl 3 133 rfl rfl _ (by decide +kernel)
theorem dL_law_938 : decode cL_law 938 = .ok (.aload_n 1, 1) := zq_0 zo_43 zkL_law_928 10 rfl rfl
theorem dL_law_939 : decode cL_law 939 = .ok (.aload_n 0, 1) := zq_0 zo_42 zkL_law_928 11 rfl rfl
theorem dL_law_940 : decode cL_law 940 = .ok (.iload_n 3, 1) := zq_0 zo_29 zkL_law_928 12 rfl rfl
theorem dL_law_941 : decode cL_law 941 = .ok (.iconst 1, 1) := zq_0 zo_4 zkL_law_928 13 rfl rfl
theorem dL_law_942 : decode cL_law 942 = .ok (.iadd, 1) := zq_0 zo_96 zkL_law_928 14 rfl rfl
theorem dL_law_943 : decode cL_law 943 = .ok (.iaload, 1) := zq_0 zo_46 zkL_law_928 15 rfl rfl
theorem dL_law_944 : decode cL_law 944 = .ok (.aload_n 0, 1) := zq_0 zo_42 zkL_law_928 16 rfl rfl
theorem dL_law_945 : decode cL_law 945 = .ok (.iload_n 3, 1) := zq_0 zo_29 zkL_law_928 17 rfl rfl
theorem dL_law_946 : decode cL_law 946 = .ok (.iconst 2, 1) := zq_0 zo_5 zkL_law_928 18 rfl rfl
theorem dL_law_947 : decode cL_law 947 = .ok (.iadd, 1) := zq_0 zo_96 zkL_law_928 19 rfl rfl
theorem dL_law_948 : decode cL_law 948 = .ok (.iaload, 1) := zq_0 zo_46 zkL_law_928 20 rfl rfl
theorem dL_law_949 : decode cL_law 949 = .ok (.aload_n 0, 1) := zq_0 zo_42 zkL_law_928 21 rfl rfl
theorem dL_law_950 : decode cL_law 950 = .ok (.iload_n 3, 1) := zq_0 zo_29 zkL_law_928 22 rfl rfl
theorem dL_law_951 : decode cL_law 951 = .ok (.iconst 3, 1) := zq_0 zo_6 zkL_law_928 23 rfl rfl
theorem dL_law_952 : decode cL_law 952 = .ok (.iadd, 1) := zq_0 zo_96 zkL_law_928 24 rfl rfl
theorem dL_law_953 : decode cL_law 953 = .ok (.iaload, 1) := zq_0 zo_46 zkL_law_928 25 rfl rfl
theorem dL_law_954 : decode cL_law 954 = .ok (.aload_n 0, 1) := zq_0 zo_42 zkL_law_928 26 rfl rfl
theorem dL_law_955 : decode cL_law 955 = .ok (.iload_n 3, 1) := zq_0 zo_29 zkL_law_928 27 rfl rfl
theorem dL_law_956 : decode cL_law 956 = .ok (.iconst 4, 1) := zq_0 zo_7 zkL_law_928 28 rfl rfl
theorem dL_law_957 : decode cL_law 957 = .ok (.iadd, 1) := zq_0 zo_96 zkL_law_928 29 rfl rfl
theorem dL_law_958 : decode cL_law 958 = .ok (.iaload, 1) := zq_0 zo_46 zkL_law_928 30 rfl rfl
theorem dL_law_959 : decode cL_law 959 = .ok (.aload_n 0, 1) := zq_0 zo_42 zkL_law_928 31 rfl rfl
theorem zkL_law_960 : zqc cL_law 960 [29, 8, 96, 46, 182, 0, 83, 87, 44, 42, 29, 4, 96, 46, 42, 29, 5, 96, 46, 42, 29, 6, 96, 46, 42, 29, 7, 96, 46, 42, 29, 8, 96, 46] := zq_of 34 (by decide +kernel)
theorem dL_law_960 : decode cL_law 960 = .ok (.iload_n 3, 1) := zq_0 zo_29 zkL_law_960 0 rfl rfl
theorem dL_law_961 : decode cL_law 961 = .ok (.iconst 5, 1) := zq_0 zo_8 zkL_law_960 1 rfl rfl
theorem dL_law_962 : decode cL_law 962 = .ok (.iadd, 1) := zq_0 zo_96 zkL_law_960 2 rfl rfl
theorem dL_law_963 : decode cL_law 963 = .ok (.iaload, 1) := zq_0 zo_46 zkL_law_960 3 rfl rfl
theorem dL_law_964 : decode cL_law 964 = .ok (.invokevirtual 83, 3) := zq_2 zo_182 zkL_law_960 4 rfl rfl 0 83 rfl rfl _ rfl
theorem dL_law_967 : decode cL_law 967 = .ok (.pop, 1) := zq_0 zo_87 zkL_law_960 7 rfl rfl
theorem dL_law_968 : decode cL_law 968 = .ok (.aload_n 2, 1) := zq_0 zo_44 zkL_law_960 8 rfl rfl
theorem dL_law_969 : decode cL_law 969 = .ok (.aload_n 0, 1) := zq_0 zo_42 zkL_law_960 9 rfl rfl
theorem dL_law_970 : decode cL_law 970 = .ok (.iload_n 3, 1) := zq_0 zo_29 zkL_law_960 10 rfl rfl
theorem dL_law_971 : decode cL_law 971 = .ok (.iconst 1, 1) := zq_0 zo_4 zkL_law_960 11 rfl rfl
theorem dL_law_972 : decode cL_law 972 = .ok (.iadd, 1) := zq_0 zo_96 zkL_law_960 12 rfl rfl
theorem dL_law_973 : decode cL_law 973 = .ok (.iaload, 1) := zq_0 zo_46 zkL_law_960 13 rfl rfl
theorem dL_law_974 : decode cL_law 974 = .ok (.aload_n 0, 1) := zq_0 zo_42 zkL_law_960 14 rfl rfl
theorem dL_law_975 : decode cL_law 975 = .ok (.iload_n 3, 1) := zq_0 zo_29 zkL_law_960 15 rfl rfl
theorem dL_law_976 : decode cL_law 976 = .ok (.iconst 2, 1) := zq_0 zo_5 zkL_law_960 16 rfl rfl
theorem dL_law_977 : decode cL_law 977 = .ok (.iadd, 1) := zq_0 zo_96 zkL_law_960 17 rfl rfl
theorem dL_law_978 : decode cL_law 978 = .ok (.iaload, 1) := zq_0 zo_46 zkL_law_960 18 rfl rfl
theorem dL_law_979 : decode cL_law 979 = .ok (.aload_n 0, 1) := zq_0 zo_42 zkL_law_960 19 rfl rfl
theorem dL_law_980 : decode cL_law 980 = .ok (.iload_n 3, 1) := zq_0 zo_29 zkL_law_960 20 rfl rfl
theorem dL_law_981 : decode cL_law 981 = .ok (.iconst 3, 1) := zq_0 zo_6 zkL_law_960 21 rfl rfl
theorem dL_law_982 : decode cL_law 982 = .ok (.iadd, 1) := zq_0 zo_96 zkL_law_960 22 rfl rfl
theorem dL_law_983 : decode cL_law 983 = .ok (.iaload, 1) := zq_0 zo_46 zkL_law_960 23 rfl rfl
theorem dL_law_984 : decode cL_law 984 = .ok (.aload_n 0, 1) := zq_0 zo_42 zkL_law_960 24 rfl rfl
theorem dL_law_985 : decode cL_law 985 = .ok (.iload_n 3, 1) := zq_0 zo_29 zkL_law_960 25 rfl rfl
theorem dL_law_986 : decode cL_law 986 = .ok (.iconst 4, 1) := zq_0 zo_7 zkL_law_960 26 rfl rfl
theorem dL_law_987 : decode cL_law 987 = .ok (.iadd, 1) := zq_0 zo_96 zkL_law_960 27 rfl rfl
