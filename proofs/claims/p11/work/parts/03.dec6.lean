theorem zqd6_0 : (decode cL_law 0 = .ok (.new 7, 3)) ∧ (decode cL_law 3 = .ok (.dup, 1)) ∧ (decode cL_law 4 = .ok (.invokespecial 9, 3)) ∧ (decode cL_law 7 = .ok (.astore_n 1, 1)) ∧ (decode cL_law 8 = .ok (.new 10, 3)) ∧ (decode cL_law 11 = .ok (.dup, 1)) ∧ (decode cL_law 12 = .ok (.invokespecial 12, 3)) ∧ (decode cL_law 15 = .ok (.astore_n 2, 1)) := by decide +kernel
theorem dL_law_0 : decode cL_law 0 = .ok (.new 7, 3) := zqd6_0.1
theorem dL_law_3 : decode cL_law 3 = .ok (.dup, 1) := zqd6_0.2.1
theorem dL_law_4 : decode cL_law 4 = .ok (.invokespecial 9, 3) := zqd6_0.2.2.1
theorem dL_law_7 : decode cL_law 7 = .ok (.astore_n 1, 1) := zqd6_0.2.2.2.1
theorem dL_law_8 : decode cL_law 8 = .ok (.new 10, 3) := zqd6_0.2.2.2.2.1
theorem dL_law_11 : decode cL_law 11 = .ok (.dup, 1) := zqd6_0.2.2.2.2.2.1
theorem dL_law_12 : decode cL_law 12 = .ok (.invokespecial 12, 3) := zqd6_0.2.2.2.2.2.2.1
theorem dL_law_15 : decode cL_law 15 = .ok (.astore_n 2, 1) := zqd6_0.2.2.2.2.2.2.2
theorem zqd6_9 : (decode cL_law 16 = .ok (.iconst 0, 1)) ∧ (decode cL_law 17 = .ok (.istore_n 3, 1)) ∧ (decode cL_law 18 = .ok (.iload_n 3, 1)) ∧ (decode cL_law 19 = .ok (.aload_n 0, 1)) ∧ (decode cL_law 20 = .ok (.arraylength, 1)) ∧ (decode cL_law 21 = .ok (.bipush 6, 2)) ∧ (decode cL_law 23 = .ok (.isub, 1)) ∧ (decode cL_law 24 = .ok (.if_icmp .gt 1818, 3)) := by decide +kernel
theorem dL_law_16 : decode cL_law 16 = .ok (.iconst 0, 1) := zqd6_9.1
theorem dL_law_17 : decode cL_law 17 = .ok (.istore_n 3, 1) := zqd6_9.2.1
theorem dL_law_18 : decode cL_law 18 = .ok (.iload_n 3, 1) := zqd6_9.2.2.1
theorem dL_law_19 : decode cL_law 19 = .ok (.aload_n 0, 1) := zqd6_9.2.2.2.1
theorem dL_law_20 : decode cL_law 20 = .ok (.arraylength, 1) := zqd6_9.2.2.2.2.1
theorem dL_law_21 : decode cL_law 21 = .ok (.bipush 6, 2) := zqd6_9.2.2.2.2.2.1
theorem dL_law_23 : decode cL_law 23 = .ok (.isub, 1) := zqd6_9.2.2.2.2.2.2.1
theorem dL_law_24 : decode cL_law 24 = .ok (.if_icmp .gt 1818, 3) := zqd6_9.2.2.2.2.2.2.2
theorem zqd6_18 : (decode cL_law 27 = .ok (.aload_n 0, 1)) ∧ (decode cL_law 28 = .ok (.iload_n 3, 1)) ∧ (decode cL_law 29 = .ok (.iaload, 1)) ∧ (decode cL_law 30 = .ok (.bipush 63, 2)) ∧ (decode cL_law 32 = .ok (.iand, 1)) ∧ (decode cL_law 33 = .ok (.tableswitch 1803 0 33 #[151, 214, 237, 270, 293, 326, 369, 412, 475, 538, 601, 654, 697, 750, 809, 842, 905, 968, 1011, 1064, 1107, 1176, 1245, 1288, 1367, 1430, 1473, 1516, 1549, 1618, 1681, 1734, 1757, 1780], 151)) ∧ (decode cL_law 184 = .ok (.aload_n 1, 1)) ∧ (decode cL_law 185 = .ok (.aload_n 0, 1)) := by decide +kernel
theorem dL_law_27 : decode cL_law 27 = .ok (.aload_n 0, 1) := zqd6_18.1
theorem dL_law_28 : decode cL_law 28 = .ok (.iload_n 3, 1) := zqd6_18.2.1
theorem dL_law_29 : decode cL_law 29 = .ok (.iaload, 1) := zqd6_18.2.2.1
theorem dL_law_30 : decode cL_law 30 = .ok (.bipush 63, 2) := zqd6_18.2.2.2.1
theorem dL_law_32 : decode cL_law 32 = .ok (.iand, 1) := zqd6_18.2.2.2.2.1
theorem dL_law_33 : decode cL_law 33 = .ok (.tableswitch 1803 0 33 #[151, 214, 237, 270, 293, 326, 369, 412, 475, 538, 601, 654, 697, 750, 809, 842, 905, 968, 1011, 1064, 1107, 1176, 1245, 1288, 1367, 1430, 1473, 1516, 1549, 1618, 1681, 1734, 1757, 1780], 151) := zqd6_18.2.2.2.2.2.1
theorem dL_law_184 : decode cL_law 184 = .ok (.aload_n 1, 1) := zqd6_18.2.2.2.2.2.2.1
theorem dL_law_185 : decode cL_law 185 = .ok (.aload_n 0, 1) := zqd6_18.2.2.2.2.2.2.2
theorem zqd6_27 : (decode cL_law 186 = .ok (.iload_n 3, 1)) ∧ (decode cL_law 187 = .ok (.iconst 1, 1)) ∧ (decode cL_law 188 = .ok (.iadd, 1)) ∧ (decode cL_law 189 = .ok (.iaload, 1)) ∧ (decode cL_law 190 = .ok (.aload_n 0, 1)) ∧ (decode cL_law 191 = .ok (.iload_n 3, 1)) ∧ (decode cL_law 192 = .ok (.iconst 2, 1)) ∧ (decode cL_law 193 = .ok (.iadd, 1)) := by decide +kernel
theorem dL_law_186 : decode cL_law 186 = .ok (.iload_n 3, 1) := zqd6_27.1
theorem dL_law_187 : decode cL_law 187 = .ok (.iconst 1, 1) := zqd6_27.2.1
theorem dL_law_188 : decode cL_law 188 = .ok (.iadd, 1) := zqd6_27.2.2.1
theorem dL_law_189 : decode cL_law 189 = .ok (.iaload, 1) := zqd6_27.2.2.2.1
theorem dL_law_190 : decode cL_law 190 = .ok (.aload_n 0, 1) := zqd6_27.2.2.2.2.1
theorem dL_law_191 : decode cL_law 191 = .ok (.iload_n 3, 1) := zqd6_27.2.2.2.2.2.1
theorem dL_law_192 : decode cL_law 192 = .ok (.iconst 2, 1) := zqd6_27.2.2.2.2.2.2.1
theorem dL_law_193 : decode cL_law 193 = .ok (.iadd, 1) := zqd6_27.2.2.2.2.2.2.2
theorem zqd6_36 : (decode cL_law 194 = .ok (.iaload, 1)) ∧ (decode cL_law 195 = .ok (.aload_n 0, 1)) ∧ (decode cL_law 196 = .ok (.iload_n 3, 1)) ∧ (decode cL_law 197 = .ok (.iconst 3, 1)) ∧ (decode cL_law 198 = .ok (.iadd, 1)) ∧ (decode cL_law 199 = .ok (.iaload, 1)) ∧ (decode cL_law 200 = .ok (.aload_n 0, 1)) ∧ (decode cL_law 201 = .ok (.iload_n 3, 1)) := by decide +kernel
theorem dL_law_194 : decode cL_law 194 = .ok (.iaload, 1) := zqd6_36.1
theorem dL_law_195 : decode cL_law 195 = .ok (.aload_n 0, 1) := zqd6_36.2.1
theorem dL_law_196 : decode cL_law 196 = .ok (.iload_n 3, 1) := zqd6_36.2.2.1
theorem dL_law_197 : decode cL_law 197 = .ok (.iconst 3, 1) := zqd6_36.2.2.2.1
theorem dL_law_198 : decode cL_law 198 = .ok (.iadd, 1) := zqd6_36.2.2.2.2.1
theorem dL_law_199 : decode cL_law 199 = .ok (.iaload, 1) := zqd6_36.2.2.2.2.2.1
theorem dL_law_200 : decode cL_law 200 = .ok (.aload_n 0, 1) := zqd6_36.2.2.2.2.2.2.1
theorem dL_law_201 : decode cL_law 201 = .ok (.iload_n 3, 1) := zqd6_36.2.2.2.2.2.2.2
theorem zqd6_45 : (decode cL_law 202 = .ok (.iconst 4, 1)) ∧ (decode cL_law 203 = .ok (.iadd, 1)) ∧ (decode cL_law 204 = .ok (.iaload, 1)) ∧ (decode cL_law 205 = .ok (.aload_n 0, 1)) ∧ (decode cL_law 206 = .ok (.iload_n 3, 1)) ∧ (decode cL_law 207 = .ok (.iconst 5, 1)) ∧ (decode cL_law 208 = .ok (.iadd, 1)) ∧ (decode cL_law 209 = .ok (.iaload, 1)) := by decide +kernel
theorem dL_law_202 : decode cL_law 202 = .ok (.iconst 4, 1) := zqd6_45.1
theorem dL_law_203 : decode cL_law 203 = .ok (.iadd, 1) := zqd6_45.2.1
theorem dL_law_204 : decode cL_law 204 = .ok (.iaload, 1) := zqd6_45.2.2.1
theorem dL_law_205 : decode cL_law 205 = .ok (.aload_n 0, 1) := zqd6_45.2.2.2.1
theorem dL_law_206 : decode cL_law 206 = .ok (.iload_n 3, 1) := zqd6_45.2.2.2.2.1
theorem dL_law_207 : decode cL_law 207 = .ok (.iconst 5, 1) := zqd6_45.2.2.2.2.2.1
theorem dL_law_208 : decode cL_law 208 = .ok (.iadd, 1) := zqd6_45.2.2.2.2.2.2.1
theorem dL_law_209 : decode cL_law 209 = .ok (.iaload, 1) := zqd6_45.2.2.2.2.2.2.2
theorem zqd6_54 : (decode cL_law 210 = .ok (.invokevirtual 13, 3)) ∧ (decode cL_law 213 = .ok (.pop, 1)) ∧ (decode cL_law 214 = .ok (.aload_n 2, 1)) ∧ (decode cL_law 215 = .ok (.aload_n 0, 1)) ∧ (decode cL_law 216 = .ok (.iload_n 3, 1)) ∧ (decode cL_law 217 = .ok (.iconst 1, 1)) ∧ (decode cL_law 218 = .ok (.iadd, 1)) ∧ (decode cL_law 219 = .ok (.iaload, 1)) := by decide +kernel
theorem dL_law_210 : decode cL_law 210 = .ok (.invokevirtual 13, 3) := zqd6_54.1
theorem dL_law_213 : decode cL_law 213 = .ok (.pop, 1) := zqd6_54.2.1
theorem dL_law_214 : decode cL_law 214 = .ok (.aload_n 2, 1) := zqd6_54.2.2.1
theorem dL_law_215 : decode cL_law 215 = .ok (.aload_n 0, 1) := zqd6_54.2.2.2.1
theorem dL_law_216 : decode cL_law 216 = .ok (.iload_n 3, 1) := zqd6_54.2.2.2.2.1
theorem dL_law_217 : decode cL_law 217 = .ok (.iconst 1, 1) := zqd6_54.2.2.2.2.2.1
theorem dL_law_218 : decode cL_law 218 = .ok (.iadd, 1) := zqd6_54.2.2.2.2.2.2.1
theorem dL_law_219 : decode cL_law 219 = .ok (.iaload, 1) := zqd6_54.2.2.2.2.2.2.2
theorem zqd6_63 : (decode cL_law 220 = .ok (.aload_n 0, 1)) ∧ (decode cL_law 221 = .ok (.iload_n 3, 1)) ∧ (decode cL_law 222 = .ok (.iconst 2, 1)) ∧ (decode cL_law 223 = .ok (.iadd, 1)) ∧ (decode cL_law 224 = .ok (.iaload, 1)) ∧ (decode cL_law 225 = .ok (.aload_n 0, 1)) ∧ (decode cL_law 226 = .ok (.iload_n 3, 1)) ∧ (decode cL_law 227 = .ok (.iconst 3, 1)) := by decide +kernel
theorem dL_law_220 : decode cL_law 220 = .ok (.aload_n 0, 1) := zqd6_63.1
theorem dL_law_221 : decode cL_law 221 = .ok (.iload_n 3, 1) := zqd6_63.2.1
theorem dL_law_222 : decode cL_law 222 = .ok (.iconst 2, 1) := zqd6_63.2.2.1
theorem dL_law_223 : decode cL_law 223 = .ok (.iadd, 1) := zqd6_63.2.2.2.1
theorem dL_law_224 : decode cL_law 224 = .ok (.iaload, 1) := zqd6_63.2.2.2.2.1
theorem dL_law_225 : decode cL_law 225 = .ok (.aload_n 0, 1) := zqd6_63.2.2.2.2.2.1
theorem dL_law_226 : decode cL_law 226 = .ok (.iload_n 3, 1) := zqd6_63.2.2.2.2.2.2.1
theorem dL_law_227 : decode cL_law 227 = .ok (.iconst 3, 1) := zqd6_63.2.2.2.2.2.2.2
theorem zqd6_72 : (decode cL_law 228 = .ok (.iadd, 1)) ∧ (decode cL_law 229 = .ok (.iaload, 1)) ∧ (decode cL_law 230 = .ok (.aload_n 0, 1)) ∧ (decode cL_law 231 = .ok (.iload_n 3, 1)) ∧ (decode cL_law 232 = .ok (.iconst 4, 1)) ∧ (decode cL_law 233 = .ok (.iadd, 1)) ∧ (decode cL_law 234 = .ok (.iaload, 1)) ∧ (decode cL_law 235 = .ok (.aload_n 0, 1)) := by decide +kernel
theorem dL_law_228 : decode cL_law 228 = .ok (.iadd, 1) := zqd6_72.1
theorem dL_law_229 : decode cL_law 229 = .ok (.iaload, 1) := zqd6_72.2.1
theorem dL_law_230 : decode cL_law 230 = .ok (.aload_n 0, 1) := zqd6_72.2.2.1
theorem dL_law_231 : decode cL_law 231 = .ok (.iload_n 3, 1) := zqd6_72.2.2.2.1
theorem dL_law_232 : decode cL_law 232 = .ok (.iconst 4, 1) := zqd6_72.2.2.2.2.1
theorem dL_law_233 : decode cL_law 233 = .ok (.iadd, 1) := zqd6_72.2.2.2.2.2.1
theorem dL_law_234 : decode cL_law 234 = .ok (.iaload, 1) := zqd6_72.2.2.2.2.2.2.1
theorem dL_law_235 : decode cL_law 235 = .ok (.aload_n 0, 1) := zqd6_72.2.2.2.2.2.2.2
theorem zqd6_81 : (decode cL_law 236 = .ok (.iload_n 3, 1)) ∧ (decode cL_law 237 = .ok (.iconst 5, 1)) ∧ (decode cL_law 238 = .ok (.iadd, 1)) ∧ (decode cL_law 239 = .ok (.iaload, 1)) ∧ (decode cL_law 240 = .ok (.invokevirtual 17, 3)) ∧ (decode cL_law 243 = .ok (.pop, 1)) ∧ (decode cL_law 244 = .ok (.goto 1592, 3)) ∧ (decode cL_law 247 = .ok (.aload_n 1, 1)) := by decide +kernel
theorem dL_law_236 : decode cL_law 236 = .ok (.iload_n 3, 1) := zqd6_81.1
theorem dL_law_237 : decode cL_law 237 = .ok (.iconst 5, 1) := zqd6_81.2.1
theorem dL_law_238 : decode cL_law 238 = .ok (.iadd, 1) := zqd6_81.2.2.1
theorem dL_law_239 : decode cL_law 239 = .ok (.iaload, 1) := zqd6_81.2.2.2.1
theorem dL_law_240 : decode cL_law 240 = .ok (.invokevirtual 17, 3) := zqd6_81.2.2.2.2.1
theorem dL_law_243 : decode cL_law 243 = .ok (.pop, 1) := zqd6_81.2.2.2.2.2.1
theorem dL_law_244 : decode cL_law 244 = .ok (.goto 1592, 3) := zqd6_81.2.2.2.2.2.2.1
theorem dL_law_247 : decode cL_law 247 = .ok (.aload_n 1, 1) := zqd6_81.2.2.2.2.2.2.2
theorem zqd6_90 : (decode cL_law 248 = .ok (.aload_n 0, 1)) ∧ (decode cL_law 249 = .ok (.iload_n 3, 1)) ∧ (decode cL_law 250 = .ok (.iconst 1, 1)) ∧ (decode cL_law 251 = .ok (.iadd, 1)) ∧ (decode cL_law 252 = .ok (.iaload, 1)) ∧ (decode cL_law 253 = .ok (.invokevirtual 18, 3)) ∧ (decode cL_law 256 = .ok (.pop, 1)) ∧ (decode cL_law 257 = .ok (.aload_n 2, 1)) := by decide +kernel
theorem dL_law_248 : decode cL_law 248 = .ok (.aload_n 0, 1) := zqd6_90.1
theorem dL_law_249 : decode cL_law 249 = .ok (.iload_n 3, 1) := zqd6_90.2.1
theorem dL_law_250 : decode cL_law 250 = .ok (.iconst 1, 1) := zqd6_90.2.2.1
theorem dL_law_251 : decode cL_law 251 = .ok (.iadd, 1) := zqd6_90.2.2.2.1
theorem dL_law_252 : decode cL_law 252 = .ok (.iaload, 1) := zqd6_90.2.2.2.2.1
theorem dL_law_253 : decode cL_law 253 = .ok (.invokevirtual 18, 3) := zqd6_90.2.2.2.2.2.1
theorem dL_law_256 : decode cL_law 256 = .ok (.pop, 1) := zqd6_90.2.2.2.2.2.2.1
theorem dL_law_257 : decode cL_law 257 = .ok (.aload_n 2, 1) := zqd6_90.2.2.2.2.2.2.2
theorem zqd6_99 : (decode cL_law 258 = .ok (.aload_n 0, 1)) ∧ (decode cL_law 259 = .ok (.iload_n 3, 1)) ∧ (decode cL_law 260 = .ok (.iconst 1, 1)) ∧ (decode cL_law 261 = .ok (.iadd, 1)) ∧ (decode cL_law 262 = .ok (.iaload, 1)) ∧ (decode cL_law 263 = .ok (.invokevirtual 22, 3)) ∧ (decode cL_law 266 = .ok (.pop, 1)) ∧ (decode cL_law 267 = .ok (.goto 1569, 3)) := by decide +kernel
theorem dL_law_258 : decode cL_law 258 = .ok (.aload_n 0, 1) := zqd6_99.1
theorem dL_law_259 : decode cL_law 259 = .ok (.iload_n 3, 1) := zqd6_99.2.1
theorem dL_law_260 : decode cL_law 260 = .ok (.iconst 1, 1) := zqd6_99.2.2.1
theorem dL_law_261 : decode cL_law 261 = .ok (.iadd, 1) := zqd6_99.2.2.2.1
theorem dL_law_262 : decode cL_law 262 = .ok (.iaload, 1) := zqd6_99.2.2.2.2.1
theorem dL_law_263 : decode cL_law 263 = .ok (.invokevirtual 22, 3) := zqd6_99.2.2.2.2.2.1
theorem dL_law_266 : decode cL_law 266 = .ok (.pop, 1) := zqd6_99.2.2.2.2.2.2.1
theorem dL_law_267 : decode cL_law 267 = .ok (.goto 1569, 3) := zqd6_99.2.2.2.2.2.2.2
theorem zqd6_108 : (decode cL_law 270 = .ok (.aload_n 1, 1)) ∧ (decode cL_law 271 = .ok (.aload_n 0, 1)) ∧ (decode cL_law 272 = .ok (.iload_n 3, 1)) ∧ (decode cL_law 273 = .ok (.iconst 1, 1)) ∧ (decode cL_law 274 = .ok (.iadd, 1)) ∧ (decode cL_law 275 = .ok (.iaload, 1)) ∧ (decode cL_law 276 = .ok (.aload_n 0, 1)) ∧ (decode cL_law 277 = .ok (.iload_n 3, 1)) := by decide +kernel
theorem dL_law_270 : decode cL_law 270 = .ok (.aload_n 1, 1) := zqd6_108.1
theorem dL_law_271 : decode cL_law 271 = .ok (.aload_n 0, 1) := zqd6_108.2.1
theorem dL_law_272 : decode cL_law 272 = .ok (.iload_n 3, 1) := zqd6_108.2.2.1
theorem dL_law_273 : decode cL_law 273 = .ok (.iconst 1, 1) := zqd6_108.2.2.2.1
theorem dL_law_274 : decode cL_law 274 = .ok (.iadd, 1) := zqd6_108.2.2.2.2.1
theorem dL_law_275 : decode cL_law 275 = .ok (.iaload, 1) := zqd6_108.2.2.2.2.2.1
theorem dL_law_276 : decode cL_law 276 = .ok (.aload_n 0, 1) := zqd6_108.2.2.2.2.2.2.1
theorem dL_law_277 : decode cL_law 277 = .ok (.iload_n 3, 1) := zqd6_108.2.2.2.2.2.2.2
theorem zqd6_117 : (decode cL_law 278 = .ok (.iconst 2, 1)) ∧ (decode cL_law 279 = .ok (.iadd, 1)) ∧ (decode cL_law 280 = .ok (.iaload, 1)) ∧ (decode cL_law 281 = .ok (.invokevirtual 23, 3)) ∧ (decode cL_law 284 = .ok (.pop, 1)) ∧ (decode cL_law 285 = .ok (.aload_n 2, 1)) ∧ (decode cL_law 286 = .ok (.aload_n 0, 1)) ∧ (decode cL_law 287 = .ok (.iload_n 3, 1)) := by decide +kernel
theorem dL_law_278 : decode cL_law 278 = .ok (.iconst 2, 1) := zqd6_117.1
theorem dL_law_279 : decode cL_law 279 = .ok (.iadd, 1) := zqd6_117.2.1
theorem dL_law_280 : decode cL_law 280 = .ok (.iaload, 1) := zqd6_117.2.2.1
theorem dL_law_281 : decode cL_law 281 = .ok (.invokevirtual 23, 3) := zqd6_117.2.2.2.1
theorem dL_law_284 : decode cL_law 284 = .ok (.pop, 1) := zqd6_117.2.2.2.2.1
theorem dL_law_285 : decode cL_law 285 = .ok (.aload_n 2, 1) := zqd6_117.2.2.2.2.2.1
theorem dL_law_286 : decode cL_law 286 = .ok (.aload_n 0, 1) := zqd6_117.2.2.2.2.2.2.1
theorem dL_law_287 : decode cL_law 287 = .ok (.iload_n 3, 1) := zqd6_117.2.2.2.2.2.2.2
theorem zqd6_126 : (decode cL_law 288 = .ok (.iconst 1, 1)) ∧ (decode cL_law 289 = .ok (.iadd, 1)) ∧ (decode cL_law 290 = .ok (.iaload, 1)) ∧ (decode cL_law 291 = .ok (.aload_n 0, 1)) ∧ (decode cL_law 292 = .ok (.iload_n 3, 1)) ∧ (decode cL_law 293 = .ok (.iconst 2, 1)) ∧ (decode cL_law 294 = .ok (.iadd, 1)) ∧ (decode cL_law 295 = .ok (.iaload, 1)) := by decide +kernel
theorem dL_law_288 : decode cL_law 288 = .ok (.iconst 1, 1) := zqd6_126.1
theorem dL_law_289 : decode cL_law 289 = .ok (.iadd, 1) := zqd6_126.2.1
theorem dL_law_290 : decode cL_law 290 = .ok (.iaload, 1) := zqd6_126.2.2.1
theorem dL_law_291 : decode cL_law 291 = .ok (.aload_n 0, 1) := zqd6_126.2.2.2.1
theorem dL_law_292 : decode cL_law 292 = .ok (.iload_n 3, 1) := zqd6_126.2.2.2.2.1
theorem dL_law_293 : decode cL_law 293 = .ok (.iconst 2, 1) := zqd6_126.2.2.2.2.2.1
theorem dL_law_294 : decode cL_law 294 = .ok (.iadd, 1) := zqd6_126.2.2.2.2.2.2.1
theorem dL_law_295 : decode cL_law 295 = .ok (.iaload, 1) := zqd6_126.2.2.2.2.2.2.2
theorem zqd6_135 : (decode cL_law 296 = .ok (.invokevirtual 27, 3)) ∧ (decode cL_law 299 = .ok (.pop, 1)) ∧ (decode cL_law 300 = .ok (.goto 1536, 3)) ∧ (decode cL_law 303 = .ok (.aload_n 1, 1)) ∧ (decode cL_law 304 = .ok (.aload_n 0, 1)) ∧ (decode cL_law 305 = .ok (.iload_n 3, 1)) ∧ (decode cL_law 306 = .ok (.iconst 1, 1)) ∧ (decode cL_law 307 = .ok (.iadd, 1)) := by decide +kernel
theorem dL_law_296 : decode cL_law 296 = .ok (.invokevirtual 27, 3) := zqd6_135.1
theorem dL_law_299 : decode cL_law 299 = .ok (.pop, 1) := zqd6_135.2.1
theorem dL_law_300 : decode cL_law 300 = .ok (.goto 1536, 3) := zqd6_135.2.2.1
theorem dL_law_303 : decode cL_law 303 = .ok (.aload_n 1, 1) := zqd6_135.2.2.2.1
theorem dL_law_304 : decode cL_law 304 = .ok (.aload_n 0, 1) := zqd6_135.2.2.2.2.1
theorem dL_law_305 : decode cL_law 305 = .ok (.iload_n 3, 1) := zqd6_135.2.2.2.2.2.1
theorem dL_law_306 : decode cL_law 306 = .ok (.iconst 1, 1) := zqd6_135.2.2.2.2.2.2.1
theorem dL_law_307 : decode cL_law 307 = .ok (.iadd, 1) := zqd6_135.2.2.2.2.2.2.2
theorem zqd6_144 : (decode cL_law 308 = .ok (.iaload, 1)) ∧ (decode cL_law 309 = .ok (.invokevirtual 28, 3)) ∧ (decode cL_law 312 = .ok (.pop, 1)) ∧ (decode cL_law 313 = .ok (.aload_n 2, 1)) ∧ (decode cL_law 314 = .ok (.aload_n 0, 1)) ∧ (decode cL_law 315 = .ok (.iload_n 3, 1)) ∧ (decode cL_law 316 = .ok (.iconst 1, 1)) ∧ (decode cL_law 317 = .ok (.iadd, 1)) := by decide +kernel
theorem dL_law_308 : decode cL_law 308 = .ok (.iaload, 1) := zqd6_144.1
theorem dL_law_309 : decode cL_law 309 = .ok (.invokevirtual 28, 3) := zqd6_144.2.1
theorem dL_law_312 : decode cL_law 312 = .ok (.pop, 1) := zqd6_144.2.2.1
theorem dL_law_313 : decode cL_law 313 = .ok (.aload_n 2, 1) := zqd6_144.2.2.2.1
theorem dL_law_314 : decode cL_law 314 = .ok (.aload_n 0, 1) := zqd6_144.2.2.2.2.1
theorem dL_law_315 : decode cL_law 315 = .ok (.iload_n 3, 1) := zqd6_144.2.2.2.2.2.1
theorem dL_law_316 : decode cL_law 316 = .ok (.iconst 1, 1) := zqd6_144.2.2.2.2.2.2.1
theorem dL_law_317 : decode cL_law 317 = .ok (.iadd, 1) := zqd6_144.2.2.2.2.2.2.2
theorem zqd6_153 : (decode cL_law 318 = .ok (.iaload, 1)) ∧ (decode cL_law 319 = .ok (.invokevirtual 31, 3)) ∧ (decode cL_law 322 = .ok (.pop, 1)) ∧ (decode cL_law 323 = .ok (.goto 1513, 3)) ∧ (decode cL_law 326 = .ok (.aload_n 1, 1)) ∧ (decode cL_law 327 = .ok (.aload_n 0, 1)) ∧ (decode cL_law 328 = .ok (.iload_n 3, 1)) ∧ (decode cL_law 329 = .ok (.iconst 1, 1)) := by decide +kernel
theorem dL_law_318 : decode cL_law 318 = .ok (.iaload, 1) := zqd6_153.1
theorem dL_law_319 : decode cL_law 319 = .ok (.invokevirtual 31, 3) := zqd6_153.2.1
theorem dL_law_322 : decode cL_law 322 = .ok (.pop, 1) := zqd6_153.2.2.1
theorem dL_law_323 : decode cL_law 323 = .ok (.goto 1513, 3) := zqd6_153.2.2.2.1
theorem dL_law_326 : decode cL_law 326 = .ok (.aload_n 1, 1) := zqd6_153.2.2.2.2.1
theorem dL_law_327 : decode cL_law 327 = .ok (.aload_n 0, 1) := zqd6_153.2.2.2.2.2.1
theorem dL_law_328 : decode cL_law 328 = .ok (.iload_n 3, 1) := zqd6_153.2.2.2.2.2.2.1
theorem dL_law_329 : decode cL_law 329 = .ok (.iconst 1, 1) := zqd6_153.2.2.2.2.2.2.2
theorem zqd6_162 : (decode cL_law 330 = .ok (.iadd, 1)) ∧ (decode cL_law 331 = .ok (.iaload, 1)) ∧ (decode cL_law 332 = .ok (.aload_n 0, 1)) ∧ (decode cL_law 333 = .ok (.iload_n 3, 1)) ∧ (decode cL_law 334 = .ok (.iconst 2, 1)) ∧ (decode cL_law 335 = .ok (.iadd, 1)) ∧ (decode cL_law 336 = .ok (.iaload, 1)) ∧ (decode cL_law 337 = .ok (.invokevirtual 32, 3)) := by decide +kernel
theorem dL_law_330 : decode cL_law 330 = .ok (.iadd, 1) := zqd6_162.1
theorem dL_law_331 : decode cL_law 331 = .ok (.iaload, 1) := zqd6_162.2.1
theorem dL_law_332 : decode cL_law 332 = .ok (.aload_n 0, 1) := zqd6_162.2.2.1
theorem dL_law_333 : decode cL_law 333 = .ok (.iload_n 3, 1) := zqd6_162.2.2.2.1
theorem dL_law_334 : decode cL_law 334 = .ok (.iconst 2, 1) := zqd6_162.2.2.2.2.1
theorem dL_law_335 : decode cL_law 335 = .ok (.iadd, 1) := zqd6_162.2.2.2.2.2.1
theorem dL_law_336 : decode cL_law 336 = .ok (.iaload, 1) := zqd6_162.2.2.2.2.2.2.1
theorem dL_law_337 : decode cL_law 337 = .ok (.invokevirtual 32, 3) := zqd6_162.2.2.2.2.2.2.2
theorem zqd6_171 : (decode cL_law 340 = .ok (.pop, 1)) ∧ (decode cL_law 341 = .ok (.aload_n 2, 1)) ∧ (decode cL_law 342 = .ok (.aload_n 0, 1)) ∧ (decode cL_law 343 = .ok (.iload_n 3, 1)) ∧ (decode cL_law 344 = .ok (.iconst 1, 1)) ∧ (decode cL_law 345 = .ok (.iadd, 1)) ∧ (decode cL_law 346 = .ok (.iaload, 1)) ∧ (decode cL_law 347 = .ok (.aload_n 0, 1)) := by decide +kernel
theorem dL_law_340 : decode cL_law 340 = .ok (.pop, 1) := zqd6_171.1
theorem dL_law_341 : decode cL_law 341 = .ok (.aload_n 2, 1) := zqd6_171.2.1
theorem dL_law_342 : decode cL_law 342 = .ok (.aload_n 0, 1) := zqd6_171.2.2.1
theorem dL_law_343 : decode cL_law 343 = .ok (.iload_n 3, 1) := zqd6_171.2.2.2.1
theorem dL_law_344 : decode cL_law 344 = .ok (.iconst 1, 1) := zqd6_171.2.2.2.2.1
theorem dL_law_345 : decode cL_law 345 = .ok (.iadd, 1) := zqd6_171.2.2.2.2.2.1
theorem dL_law_346 : decode cL_law 346 = .ok (.iaload, 1) := zqd6_171.2.2.2.2.2.2.1
theorem dL_law_347 : decode cL_law 347 = .ok (.aload_n 0, 1) := zqd6_171.2.2.2.2.2.2.2
theorem zqd6_180 : (decode cL_law 348 = .ok (.iload_n 3, 1)) ∧ (decode cL_law 349 = .ok (.iconst 2, 1)) ∧ (decode cL_law 350 = .ok (.iadd, 1)) ∧ (decode cL_law 351 = .ok (.iaload, 1)) ∧ (decode cL_law 352 = .ok (.invokevirtual 35, 3)) ∧ (decode cL_law 355 = .ok (.pop, 1)) ∧ (decode cL_law 356 = .ok (.goto 1480, 3)) ∧ (decode cL_law 359 = .ok (.aload_n 1, 1)) := by decide +kernel
theorem dL_law_348 : decode cL_law 348 = .ok (.iload_n 3, 1) := zqd6_180.1
theorem dL_law_349 : decode cL_law 349 = .ok (.iconst 2, 1) := zqd6_180.2.1
theorem dL_law_350 : decode cL_law 350 = .ok (.iadd, 1) := zqd6_180.2.2.1
theorem dL_law_351 : decode cL_law 351 = .ok (.iaload, 1) := zqd6_180.2.2.2.1
theorem dL_law_352 : decode cL_law 352 = .ok (.invokevirtual 35, 3) := zqd6_180.2.2.2.2.1
theorem dL_law_355 : decode cL_law 355 = .ok (.pop, 1) := zqd6_180.2.2.2.2.2.1
theorem dL_law_356 : decode cL_law 356 = .ok (.goto 1480, 3) := zqd6_180.2.2.2.2.2.2.1
theorem dL_law_359 : decode cL_law 359 = .ok (.aload_n 1, 1) := zqd6_180.2.2.2.2.2.2.2
theorem zqd6_189 : (decode cL_law 360 = .ok (.aload_n 0, 1)) ∧ (decode cL_law 361 = .ok (.iload_n 3, 1)) ∧ (decode cL_law 362 = .ok (.iconst 1, 1)) ∧ (decode cL_law 363 = .ok (.iadd, 1)) ∧ (decode cL_law 364 = .ok (.iaload, 1)) ∧ (decode cL_law 365 = .ok (.aload_n 0, 1)) ∧ (decode cL_law 366 = .ok (.iload_n 3, 1)) ∧ (decode cL_law 367 = .ok (.iconst 2, 1)) := by decide +kernel
theorem dL_law_360 : decode cL_law 360 = .ok (.aload_n 0, 1) := zqd6_189.1
theorem dL_law_361 : decode cL_law 361 = .ok (.iload_n 3, 1) := zqd6_189.2.1
theorem dL_law_362 : decode cL_law 362 = .ok (.iconst 1, 1) := zqd6_189.2.2.1
theorem dL_law_363 : decode cL_law 363 = .ok (.iadd, 1) := zqd6_189.2.2.2.1
theorem dL_law_364 : decode cL_law 364 = .ok (.iaload, 1) := zqd6_189.2.2.2.2.1
theorem dL_law_365 : decode cL_law 365 = .ok (.aload_n 0, 1) := zqd6_189.2.2.2.2.2.1
theorem dL_law_366 : decode cL_law 366 = .ok (.iload_n 3, 1) := zqd6_189.2.2.2.2.2.2.1
theorem dL_law_367 : decode cL_law 367 = .ok (.iconst 2, 1) := zqd6_189.2.2.2.2.2.2.2
theorem zqd6_198 : (decode cL_law 368 = .ok (.iadd, 1)) ∧ (decode cL_law 369 = .ok (.iaload, 1)) ∧ (decode cL_law 370 = .ok (.aload_n 0, 1)) ∧ (decode cL_law 371 = .ok (.iload_n 3, 1)) ∧ (decode cL_law 372 = .ok (.iconst 3, 1)) ∧ (decode cL_law 373 = .ok (.iadd, 1)) ∧ (decode cL_law 374 = .ok (.iaload, 1)) ∧ (decode cL_law 375 = .ok (.invokevirtual 36, 3)) := by decide +kernel
theorem dL_law_368 : decode cL_law 368 = .ok (.iadd, 1) := zqd6_198.1
theorem dL_law_369 : decode cL_law 369 = .ok (.iaload, 1) := zqd6_198.2.1
theorem dL_law_370 : decode cL_law 370 = .ok (.aload_n 0, 1) := zqd6_198.2.2.1
theorem dL_law_371 : decode cL_law 371 = .ok (.iload_n 3, 1) := zqd6_198.2.2.2.1
theorem dL_law_372 : decode cL_law 372 = .ok (.iconst 3, 1) := zqd6_198.2.2.2.2.1
theorem dL_law_373 : decode cL_law 373 = .ok (.iadd, 1) := zqd6_198.2.2.2.2.2.1
theorem dL_law_374 : decode cL_law 374 = .ok (.iaload, 1) := zqd6_198.2.2.2.2.2.2.1
theorem dL_law_375 : decode cL_law 375 = .ok (.invokevirtual 36, 3) := zqd6_198.2.2.2.2.2.2.2
theorem zqd6_207 : (decode cL_law 378 = .ok (.pop, 1)) ∧ (decode cL_law 379 = .ok (.aload_n 2, 1)) ∧ (decode cL_law 380 = .ok (.aload_n 0, 1)) ∧ (decode cL_law 381 = .ok (.iload_n 3, 1)) ∧ (decode cL_law 382 = .ok (.iconst 1, 1)) ∧ (decode cL_law 383 = .ok (.iadd, 1)) ∧ (decode cL_law 384 = .ok (.iaload, 1)) ∧ (decode cL_law 385 = .ok (.aload_n 0, 1)) := by decide +kernel
theorem dL_law_378 : decode cL_law 378 = .ok (.pop, 1) := zqd6_207.1
theorem dL_law_379 : decode cL_law 379 = .ok (.aload_n 2, 1) := zqd6_207.2.1
theorem dL_law_380 : decode cL_law 380 = .ok (.aload_n 0, 1) := zqd6_207.2.2.1
theorem dL_law_381 : decode cL_law 381 = .ok (.iload_n 3, 1) := zqd6_207.2.2.2.1
theorem dL_law_382 : decode cL_law 382 = .ok (.iconst 1, 1) := zqd6_207.2.2.2.2.1
theorem dL_law_383 : decode cL_law 383 = .ok (.iadd, 1) := zqd6_207.2.2.2.2.2.1
theorem dL_law_384 : decode cL_law 384 = .ok (.iaload, 1) := zqd6_207.2.2.2.2.2.2.1
theorem dL_law_385 : decode cL_law 385 = .ok (.aload_n 0, 1) := zqd6_207.2.2.2.2.2.2.2
theorem zqd6_216 : (decode cL_law 386 = .ok (.iload_n 3, 1)) ∧ (decode cL_law 387 = .ok (.iconst 2, 1)) ∧ (decode cL_law 388 = .ok (.iadd, 1)) ∧ (decode cL_law 389 = .ok (.iaload, 1)) ∧ (decode cL_law 390 = .ok (.aload_n 0, 1)) ∧ (decode cL_law 391 = .ok (.iload_n 3, 1)) ∧ (decode cL_law 392 = .ok (.iconst 3, 1)) ∧ (decode cL_law 393 = .ok (.iadd, 1)) := by decide +kernel
theorem dL_law_386 : decode cL_law 386 = .ok (.iload_n 3, 1) := zqd6_216.1
theorem dL_law_387 : decode cL_law 387 = .ok (.iconst 2, 1) := zqd6_216.2.1
theorem dL_law_388 : decode cL_law 388 = .ok (.iadd, 1) := zqd6_216.2.2.1
theorem dL_law_389 : decode cL_law 389 = .ok (.iaload, 1) := zqd6_216.2.2.2.1
theorem dL_law_390 : decode cL_law 390 = .ok (.aload_n 0, 1) := zqd6_216.2.2.2.2.1
theorem dL_law_391 : decode cL_law 391 = .ok (.iload_n 3, 1) := zqd6_216.2.2.2.2.2.1
theorem dL_law_392 : decode cL_law 392 = .ok (.iconst 3, 1) := zqd6_216.2.2.2.2.2.2.1
theorem dL_law_393 : decode cL_law 393 = .ok (.iadd, 1) := zqd6_216.2.2.2.2.2.2.2
theorem zqd6_225 : (decode cL_law 394 = .ok (.iaload, 1)) ∧ (decode cL_law 395 = .ok (.invokevirtual 40, 3)) ∧ (decode cL_law 398 = .ok (.pop, 1)) ∧ (decode cL_law 399 = .ok (.goto 1437, 3)) ∧ (decode cL_law 402 = .ok (.aload_n 1, 1)) ∧ (decode cL_law 403 = .ok (.aload_n 0, 1)) ∧ (decode cL_law 404 = .ok (.iload_n 3, 1)) ∧ (decode cL_law 405 = .ok (.iconst 1, 1)) := by decide +kernel
theorem dL_law_394 : decode cL_law 394 = .ok (.iaload, 1) := zqd6_225.1
theorem dL_law_395 : decode cL_law 395 = .ok (.invokevirtual 40, 3) := zqd6_225.2.1
theorem dL_law_398 : decode cL_law 398 = .ok (.pop, 1) := zqd6_225.2.2.1
theorem dL_law_399 : decode cL_law 399 = .ok (.goto 1437, 3) := zqd6_225.2.2.2.1
theorem dL_law_402 : decode cL_law 402 = .ok (.aload_n 1, 1) := zqd6_225.2.2.2.2.1
theorem dL_law_403 : decode cL_law 403 = .ok (.aload_n 0, 1) := zqd6_225.2.2.2.2.2.1
theorem dL_law_404 : decode cL_law 404 = .ok (.iload_n 3, 1) := zqd6_225.2.2.2.2.2.2.1
theorem dL_law_405 : decode cL_law 405 = .ok (.iconst 1, 1) := zqd6_225.2.2.2.2.2.2.2
theorem zqd6_234 : (decode cL_law 406 = .ok (.iadd, 1)) ∧ (decode cL_law 407 = .ok (.iaload, 1)) ∧ (decode cL_law 408 = .ok (.aload_n 0, 1)) ∧ (decode cL_law 409 = .ok (.iload_n 3, 1)) ∧ (decode cL_law 410 = .ok (.iconst 2, 1)) ∧ (decode cL_law 411 = .ok (.iadd, 1)) ∧ (decode cL_law 412 = .ok (.iaload, 1)) ∧ (decode cL_law 413 = .ok (.aload_n 0, 1)) := by decide +kernel
theorem dL_law_406 : decode cL_law 406 = .ok (.iadd, 1) := zqd6_234.1
theorem dL_law_407 : decode cL_law 407 = .ok (.iaload, 1) := zqd6_234.2.1
theorem dL_law_408 : decode cL_law 408 = .ok (.aload_n 0, 1) := zqd6_234.2.2.1
theorem dL_law_409 : decode cL_law 409 = .ok (.iload_n 3, 1) := zqd6_234.2.2.2.1
theorem dL_law_410 : decode cL_law 410 = .ok (.iconst 2, 1) := zqd6_234.2.2.2.2.1
theorem dL_law_411 : decode cL_law 411 = .ok (.iadd, 1) := zqd6_234.2.2.2.2.2.1
theorem dL_law_412 : decode cL_law 412 = .ok (.iaload, 1) := zqd6_234.2.2.2.2.2.2.1
theorem dL_law_413 : decode cL_law 413 = .ok (.aload_n 0, 1) := zqd6_234.2.2.2.2.2.2.2
theorem zqd6_243 : (decode cL_law 414 = .ok (.iload_n 3, 1)) ∧ (decode cL_law 415 = .ok (.iconst 3, 1)) ∧ (decode cL_law 416 = .ok (.iadd, 1)) ∧ (decode cL_law 417 = .ok (.iaload, 1)) ∧ (decode cL_law 418 = .ok (.invokevirtual 41, 3)) ∧ (decode cL_law 421 = .ok (.pop, 1)) ∧ (decode cL_law 422 = .ok (.aload_n 2, 1)) ∧ (decode cL_law 423 = .ok (.aload_n 0, 1)) := by decide +kernel
theorem dL_law_414 : decode cL_law 414 = .ok (.iload_n 3, 1) := zqd6_243.1
theorem dL_law_415 : decode cL_law 415 = .ok (.iconst 3, 1) := zqd6_243.2.1
theorem dL_law_416 : decode cL_law 416 = .ok (.iadd, 1) := zqd6_243.2.2.1
theorem dL_law_417 : decode cL_law 417 = .ok (.iaload, 1) := zqd6_243.2.2.2.1
theorem dL_law_418 : decode cL_law 418 = .ok (.invokevirtual 41, 3) := zqd6_243.2.2.2.2.1
theorem dL_law_421 : decode cL_law 421 = .ok (.pop, 1) := zqd6_243.2.2.2.2.2.1
theorem dL_law_422 : decode cL_law 422 = .ok (.aload_n 2, 1) := zqd6_243.2.2.2.2.2.2.1
theorem dL_law_423 : decode cL_law 423 = .ok (.aload_n 0, 1) := zqd6_243.2.2.2.2.2.2.2
theorem zqd6_252 : (decode cL_law 424 = .ok (.iload_n 3, 1)) ∧ (decode cL_law 425 = .ok (.iconst 1, 1)) ∧ (decode cL_law 426 = .ok (.iadd, 1)) ∧ (decode cL_law 427 = .ok (.iaload, 1)) ∧ (decode cL_law 428 = .ok (.aload_n 0, 1)) ∧ (decode cL_law 429 = .ok (.iload_n 3, 1)) ∧ (decode cL_law 430 = .ok (.iconst 2, 1)) ∧ (decode cL_law 431 = .ok (.iadd, 1)) := by decide +kernel
theorem dL_law_424 : decode cL_law 424 = .ok (.iload_n 3, 1) := zqd6_252.1
theorem dL_law_425 : decode cL_law 425 = .ok (.iconst 1, 1) := zqd6_252.2.1
theorem dL_law_426 : decode cL_law 426 = .ok (.iadd, 1) := zqd6_252.2.2.1
theorem dL_law_427 : decode cL_law 427 = .ok (.iaload, 1) := zqd6_252.2.2.2.1
theorem dL_law_428 : decode cL_law 428 = .ok (.aload_n 0, 1) := zqd6_252.2.2.2.2.1
theorem dL_law_429 : decode cL_law 429 = .ok (.iload_n 3, 1) := zqd6_252.2.2.2.2.2.1
theorem dL_law_430 : decode cL_law 430 = .ok (.iconst 2, 1) := zqd6_252.2.2.2.2.2.2.1
theorem dL_law_431 : decode cL_law 431 = .ok (.iadd, 1) := zqd6_252.2.2.2.2.2.2.2
theorem zqd6_261 : (decode cL_law 432 = .ok (.iaload, 1)) ∧ (decode cL_law 433 = .ok (.aload_n 0, 1)) ∧ (decode cL_law 434 = .ok (.iload_n 3, 1)) ∧ (decode cL_law 435 = .ok (.iconst 3, 1)) ∧ (decode cL_law 436 = .ok (.iadd, 1)) ∧ (decode cL_law 437 = .ok (.iaload, 1)) ∧ (decode cL_law 438 = .ok (.invokevirtual 44, 3)) ∧ (decode cL_law 441 = .ok (.pop, 1)) := by decide +kernel
theorem dL_law_432 : decode cL_law 432 = .ok (.iaload, 1) := zqd6_261.1
theorem dL_law_433 : decode cL_law 433 = .ok (.aload_n 0, 1) := zqd6_261.2.1
theorem dL_law_434 : decode cL_law 434 = .ok (.iload_n 3, 1) := zqd6_261.2.2.1
theorem dL_law_435 : decode cL_law 435 = .ok (.iconst 3, 1) := zqd6_261.2.2.2.1
theorem dL_law_436 : decode cL_law 436 = .ok (.iadd, 1) := zqd6_261.2.2.2.2.1
theorem dL_law_437 : decode cL_law 437 = .ok (.iaload, 1) := zqd6_261.2.2.2.2.2.1
theorem dL_law_438 : decode cL_law 438 = .ok (.invokevirtual 44, 3) := zqd6_261.2.2.2.2.2.2.1
theorem dL_law_441 : decode cL_law 441 = .ok (.pop, 1) := zqd6_261.2.2.2.2.2.2.2
theorem zqd6_270 : (decode cL_law 442 = .ok (.goto 1394, 3)) ∧ (decode cL_law 445 = .ok (.aload_n 1, 1)) ∧ (decode cL_law 446 = .ok (.aload_n 0, 1)) ∧ (decode cL_law 447 = .ok (.iload_n 3, 1)) ∧ (decode cL_law 448 = .ok (.iconst 1, 1)) ∧ (decode cL_law 449 = .ok (.iadd, 1)) ∧ (decode cL_law 450 = .ok (.iaload, 1)) ∧ (decode cL_law 451 = .ok (.aload_n 0, 1)) := by decide +kernel
theorem dL_law_442 : decode cL_law 442 = .ok (.goto 1394, 3) := zqd6_270.1
theorem dL_law_445 : decode cL_law 445 = .ok (.aload_n 1, 1) := zqd6_270.2.1
theorem dL_law_446 : decode cL_law 446 = .ok (.aload_n 0, 1) := zqd6_270.2.2.1
theorem dL_law_447 : decode cL_law 447 = .ok (.iload_n 3, 1) := zqd6_270.2.2.2.1
theorem dL_law_448 : decode cL_law 448 = .ok (.iconst 1, 1) := zqd6_270.2.2.2.2.1
theorem dL_law_449 : decode cL_law 449 = .ok (.iadd, 1) := zqd6_270.2.2.2.2.2.1
theorem dL_law_450 : decode cL_law 450 = .ok (.iaload, 1) := zqd6_270.2.2.2.2.2.2.1
theorem dL_law_451 : decode cL_law 451 = .ok (.aload_n 0, 1) := zqd6_270.2.2.2.2.2.2.2
theorem zqd6_279 : (decode cL_law 452 = .ok (.iload_n 3, 1)) ∧ (decode cL_law 453 = .ok (.iconst 2, 1)) ∧ (decode cL_law 454 = .ok (.iadd, 1)) ∧ (decode cL_law 455 = .ok (.iaload, 1)) ∧ (decode cL_law 456 = .ok (.aload_n 0, 1)) ∧ (decode cL_law 457 = .ok (.iload_n 3, 1)) ∧ (decode cL_law 458 = .ok (.iconst 3, 1)) ∧ (decode cL_law 459 = .ok (.iadd, 1)) := by decide +kernel
theorem dL_law_452 : decode cL_law 452 = .ok (.iload_n 3, 1) := zqd6_279.1
theorem dL_law_453 : decode cL_law 453 = .ok (.iconst 2, 1) := zqd6_279.2.1
theorem dL_law_454 : decode cL_law 454 = .ok (.iadd, 1) := zqd6_279.2.2.1
theorem dL_law_455 : decode cL_law 455 = .ok (.iaload, 1) := zqd6_279.2.2.2.1
theorem dL_law_456 : decode cL_law 456 = .ok (.aload_n 0, 1) := zqd6_279.2.2.2.2.1
theorem dL_law_457 : decode cL_law 457 = .ok (.iload_n 3, 1) := zqd6_279.2.2.2.2.2.1
theorem dL_law_458 : decode cL_law 458 = .ok (.iconst 3, 1) := zqd6_279.2.2.2.2.2.2.1
theorem dL_law_459 : decode cL_law 459 = .ok (.iadd, 1) := zqd6_279.2.2.2.2.2.2.2
theorem zqd6_288 : (decode cL_law 460 = .ok (.iaload, 1)) ∧ (decode cL_law 461 = .ok (.aload_n 0, 1)) ∧ (decode cL_law 462 = .ok (.iload_n 3, 1)) ∧ (decode cL_law 463 = .ok (.iconst 4, 1)) ∧ (decode cL_law 464 = .ok (.iadd, 1)) ∧ (decode cL_law 465 = .ok (.iaload, 1)) ∧ (decode cL_law 466 = .ok (.aload_n 0, 1)) ∧ (decode cL_law 467 = .ok (.iload_n 3, 1)) := by decide +kernel
theorem dL_law_460 : decode cL_law 460 = .ok (.iaload, 1) := zqd6_288.1
theorem dL_law_461 : decode cL_law 461 = .ok (.aload_n 0, 1) := zqd6_288.2.1
theorem dL_law_462 : decode cL_law 462 = .ok (.iload_n 3, 1) := zqd6_288.2.2.1
theorem dL_law_463 : decode cL_law 463 = .ok (.iconst 4, 1) := zqd6_288.2.2.2.1
theorem dL_law_464 : decode cL_law 464 = .ok (.iadd, 1) := zqd6_288.2.2.2.2.1
theorem dL_law_465 : decode cL_law 465 = .ok (.iaload, 1) := zqd6_288.2.2.2.2.2.1
theorem dL_law_466 : decode cL_law 466 = .ok (.aload_n 0, 1) := zqd6_288.2.2.2.2.2.2.1
theorem dL_law_467 : decode cL_law 467 = .ok (.iload_n 3, 1) := zqd6_288.2.2.2.2.2.2.2
theorem zqd6_297 : (decode cL_law 468 = .ok (.iconst 5, 1)) ∧ (decode cL_law 469 = .ok (.iadd, 1)) ∧ (decode cL_law 470 = .ok (.iaload, 1)) ∧ (decode cL_law 471 = .ok (.invokevirtual 45, 3)) ∧ (decode cL_law 474 = .ok (.pop, 1)) ∧ (decode cL_law 475 = .ok (.aload_n 2, 1)) ∧ (decode cL_law 476 = .ok (.aload_n 0, 1)) ∧ (decode cL_law 477 = .ok (.iload_n 3, 1)) := by decide +kernel
theorem dL_law_468 : decode cL_law 468 = .ok (.iconst 5, 1) := zqd6_297.1
theorem dL_law_469 : decode cL_law 469 = .ok (.iadd, 1) := zqd6_297.2.1
theorem dL_law_470 : decode cL_law 470 = .ok (.iaload, 1) := zqd6_297.2.2.1
theorem dL_law_471 : decode cL_law 471 = .ok (.invokevirtual 45, 3) := zqd6_297.2.2.2.1
theorem dL_law_474 : decode cL_law 474 = .ok (.pop, 1) := zqd6_297.2.2.2.2.1
theorem dL_law_475 : decode cL_law 475 = .ok (.aload_n 2, 1) := zqd6_297.2.2.2.2.2.1
theorem dL_law_476 : decode cL_law 476 = .ok (.aload_n 0, 1) := zqd6_297.2.2.2.2.2.2.1
theorem dL_law_477 : decode cL_law 477 = .ok (.iload_n 3, 1) := zqd6_297.2.2.2.2.2.2.2
theorem zqd6_306 : (decode cL_law 478 = .ok (.iconst 1, 1)) ∧ (decode cL_law 479 = .ok (.iadd, 1)) ∧ (decode cL_law 480 = .ok (.iaload, 1)) ∧ (decode cL_law 481 = .ok (.aload_n 0, 1)) ∧ (decode cL_law 482 = .ok (.iload_n 3, 1)) ∧ (decode cL_law 483 = .ok (.iconst 2, 1)) ∧ (decode cL_law 484 = .ok (.iadd, 1)) ∧ (decode cL_law 485 = .ok (.iaload, 1)) := by decide +kernel
theorem dL_law_478 : decode cL_law 478 = .ok (.iconst 1, 1) := zqd6_306.1
theorem dL_law_479 : decode cL_law 479 = .ok (.iadd, 1) := zqd6_306.2.1
theorem dL_law_480 : decode cL_law 480 = .ok (.iaload, 1) := zqd6_306.2.2.1
theorem dL_law_481 : decode cL_law 481 = .ok (.aload_n 0, 1) := zqd6_306.2.2.2.1
theorem dL_law_482 : decode cL_law 482 = .ok (.iload_n 3, 1) := zqd6_306.2.2.2.2.1
theorem dL_law_483 : decode cL_law 483 = .ok (.iconst 2, 1) := zqd6_306.2.2.2.2.2.1
theorem dL_law_484 : decode cL_law 484 = .ok (.iadd, 1) := zqd6_306.2.2.2.2.2.2.1
theorem dL_law_485 : decode cL_law 485 = .ok (.iaload, 1) := zqd6_306.2.2.2.2.2.2.2
theorem zqd6_315 : (decode cL_law 486 = .ok (.aload_n 0, 1)) ∧ (decode cL_law 487 = .ok (.iload_n 3, 1)) ∧ (decode cL_law 488 = .ok (.iconst 3, 1)) ∧ (decode cL_law 489 = .ok (.iadd, 1)) ∧ (decode cL_law 490 = .ok (.iaload, 1)) ∧ (decode cL_law 491 = .ok (.aload_n 0, 1)) ∧ (decode cL_law 492 = .ok (.iload_n 3, 1)) ∧ (decode cL_law 493 = .ok (.iconst 4, 1)) := by decide +kernel
theorem dL_law_486 : decode cL_law 486 = .ok (.aload_n 0, 1) := zqd6_315.1
theorem dL_law_487 : decode cL_law 487 = .ok (.iload_n 3, 1) := zqd6_315.2.1
theorem dL_law_488 : decode cL_law 488 = .ok (.iconst 3, 1) := zqd6_315.2.2.1
theorem dL_law_489 : decode cL_law 489 = .ok (.iadd, 1) := zqd6_315.2.2.2.1
theorem dL_law_490 : decode cL_law 490 = .ok (.iaload, 1) := zqd6_315.2.2.2.2.1
theorem dL_law_491 : decode cL_law 491 = .ok (.aload_n 0, 1) := zqd6_315.2.2.2.2.2.1
theorem dL_law_492 : decode cL_law 492 = .ok (.iload_n 3, 1) := zqd6_315.2.2.2.2.2.2.1
theorem dL_law_493 : decode cL_law 493 = .ok (.iconst 4, 1) := zqd6_315.2.2.2.2.2.2.2
theorem zqd6_324 : (decode cL_law 494 = .ok (.iadd, 1)) ∧ (decode cL_law 495 = .ok (.iaload, 1)) ∧ (decode cL_law 496 = .ok (.aload_n 0, 1)) ∧ (decode cL_law 497 = .ok (.iload_n 3, 1)) ∧ (decode cL_law 498 = .ok (.iconst 5, 1)) ∧ (decode cL_law 499 = .ok (.iadd, 1)) ∧ (decode cL_law 500 = .ok (.iaload, 1)) ∧ (decode cL_law 501 = .ok (.invokevirtual 48, 3)) := by decide +kernel
theorem dL_law_494 : decode cL_law 494 = .ok (.iadd, 1) := zqd6_324.1
theorem dL_law_495 : decode cL_law 495 = .ok (.iaload, 1) := zqd6_324.2.1
theorem dL_law_496 : decode cL_law 496 = .ok (.aload_n 0, 1) := zqd6_324.2.2.1
theorem dL_law_497 : decode cL_law 497 = .ok (.iload_n 3, 1) := zqd6_324.2.2.2.1
theorem dL_law_498 : decode cL_law 498 = .ok (.iconst 5, 1) := zqd6_324.2.2.2.2.1
theorem dL_law_499 : decode cL_law 499 = .ok (.iadd, 1) := zqd6_324.2.2.2.2.2.1
theorem dL_law_500 : decode cL_law 500 = .ok (.iaload, 1) := zqd6_324.2.2.2.2.2.2.1
theorem dL_law_501 : decode cL_law 501 = .ok (.invokevirtual 48, 3) := zqd6_324.2.2.2.2.2.2.2
theorem zqd6_333 : (decode cL_law 504 = .ok (.pop, 1)) ∧ (decode cL_law 505 = .ok (.goto 1331, 3)) ∧ (decode cL_law 508 = .ok (.aload_n 1, 1)) ∧ (decode cL_law 509 = .ok (.aload_n 0, 1)) ∧ (decode cL_law 510 = .ok (.iload_n 3, 1)) ∧ (decode cL_law 511 = .ok (.iconst 1, 1)) ∧ (decode cL_law 512 = .ok (.iadd, 1)) ∧ (decode cL_law 513 = .ok (.iaload, 1)) := by decide +kernel
theorem dL_law_504 : decode cL_law 504 = .ok (.pop, 1) := zqd6_333.1
theorem dL_law_505 : decode cL_law 505 = .ok (.goto 1331, 3) := zqd6_333.2.1
theorem dL_law_508 : decode cL_law 508 = .ok (.aload_n 1, 1) := zqd6_333.2.2.1
theorem dL_law_509 : decode cL_law 509 = .ok (.aload_n 0, 1) := zqd6_333.2.2.2.1
theorem dL_law_510 : decode cL_law 510 = .ok (.iload_n 3, 1) := zqd6_333.2.2.2.2.1
theorem dL_law_511 : decode cL_law 511 = .ok (.iconst 1, 1) := zqd6_333.2.2.2.2.2.1
theorem dL_law_512 : decode cL_law 512 = .ok (.iadd, 1) := zqd6_333.2.2.2.2.2.2.1
theorem dL_law_513 : decode cL_law 513 = .ok (.iaload, 1) := zqd6_333.2.2.2.2.2.2.2
theorem zqd6_342 : (decode cL_law 514 = .ok (.aload_n 0, 1)) ∧ (decode cL_law 515 = .ok (.iload_n 3, 1)) ∧ (decode cL_law 516 = .ok (.iconst 2, 1)) ∧ (decode cL_law 517 = .ok (.iadd, 1)) ∧ (decode cL_law 518 = .ok (.iaload, 1)) ∧ (decode cL_law 519 = .ok (.aload_n 0, 1)) ∧ (decode cL_law 520 = .ok (.iload_n 3, 1)) ∧ (decode cL_law 521 = .ok (.iconst 3, 1)) := by decide +kernel
theorem dL_law_514 : decode cL_law 514 = .ok (.aload_n 0, 1) := zqd6_342.1
theorem dL_law_515 : decode cL_law 515 = .ok (.iload_n 3, 1) := zqd6_342.2.1
theorem dL_law_516 : decode cL_law 516 = .ok (.iconst 2, 1) := zqd6_342.2.2.1
theorem dL_law_517 : decode cL_law 517 = .ok (.iadd, 1) := zqd6_342.2.2.2.1
theorem dL_law_518 : decode cL_law 518 = .ok (.iaload, 1) := zqd6_342.2.2.2.2.1
theorem dL_law_519 : decode cL_law 519 = .ok (.aload_n 0, 1) := zqd6_342.2.2.2.2.2.1
theorem dL_law_520 : decode cL_law 520 = .ok (.iload_n 3, 1) := zqd6_342.2.2.2.2.2.2.1
theorem dL_law_521 : decode cL_law 521 = .ok (.iconst 3, 1) := zqd6_342.2.2.2.2.2.2.2
theorem zqd6_351 : (decode cL_law 522 = .ok (.iadd, 1)) ∧ (decode cL_law 523 = .ok (.iaload, 1)) ∧ (decode cL_law 524 = .ok (.aload_n 0, 1)) ∧ (decode cL_law 525 = .ok (.iload_n 3, 1)) ∧ (decode cL_law 526 = .ok (.iconst 4, 1)) ∧ (decode cL_law 527 = .ok (.iadd, 1)) ∧ (decode cL_law 528 = .ok (.iaload, 1)) ∧ (decode cL_law 529 = .ok (.aload_n 0, 1)) := by decide +kernel
theorem dL_law_522 : decode cL_law 522 = .ok (.iadd, 1) := zqd6_351.1
theorem dL_law_523 : decode cL_law 523 = .ok (.iaload, 1) := zqd6_351.2.1
theorem dL_law_524 : decode cL_law 524 = .ok (.aload_n 0, 1) := zqd6_351.2.2.1
theorem dL_law_525 : decode cL_law 525 = .ok (.iload_n 3, 1) := zqd6_351.2.2.2.1
theorem dL_law_526 : decode cL_law 526 = .ok (.iconst 4, 1) := zqd6_351.2.2.2.2.1
theorem dL_law_527 : decode cL_law 527 = .ok (.iadd, 1) := zqd6_351.2.2.2.2.2.1
theorem dL_law_528 : decode cL_law 528 = .ok (.iaload, 1) := zqd6_351.2.2.2.2.2.2.1
theorem dL_law_529 : decode cL_law 529 = .ok (.aload_n 0, 1) := zqd6_351.2.2.2.2.2.2.2
theorem zqd6_360 : (decode cL_law 530 = .ok (.iload_n 3, 1)) ∧ (decode cL_law 531 = .ok (.iconst 5, 1)) ∧ (decode cL_law 532 = .ok (.iadd, 1)) ∧ (decode cL_law 533 = .ok (.iaload, 1)) ∧ (decode cL_law 534 = .ok (.invokevirtual 49, 3)) ∧ (decode cL_law 537 = .ok (.pop, 1)) ∧ (decode cL_law 538 = .ok (.aload_n 2, 1)) ∧ (decode cL_law 539 = .ok (.aload_n 0, 1)) := by decide +kernel
theorem dL_law_530 : decode cL_law 530 = .ok (.iload_n 3, 1) := zqd6_360.1
theorem dL_law_531 : decode cL_law 531 = .ok (.iconst 5, 1) := zqd6_360.2.1
theorem dL_law_532 : decode cL_law 532 = .ok (.iadd, 1) := zqd6_360.2.2.1
theorem dL_law_533 : decode cL_law 533 = .ok (.iaload, 1) := zqd6_360.2.2.2.1
theorem dL_law_534 : decode cL_law 534 = .ok (.invokevirtual 49, 3) := zqd6_360.2.2.2.2.1
theorem dL_law_537 : decode cL_law 537 = .ok (.pop, 1) := zqd6_360.2.2.2.2.2.1
theorem dL_law_538 : decode cL_law 538 = .ok (.aload_n 2, 1) := zqd6_360.2.2.2.2.2.2.1
theorem dL_law_539 : decode cL_law 539 = .ok (.aload_n 0, 1) := zqd6_360.2.2.2.2.2.2.2
theorem zqd6_369 : (decode cL_law 540 = .ok (.iload_n 3, 1)) ∧ (decode cL_law 541 = .ok (.iconst 1, 1)) ∧ (decode cL_law 542 = .ok (.iadd, 1)) ∧ (decode cL_law 543 = .ok (.iaload, 1)) ∧ (decode cL_law 544 = .ok (.aload_n 0, 1)) ∧ (decode cL_law 545 = .ok (.iload_n 3, 1)) ∧ (decode cL_law 546 = .ok (.iconst 2, 1)) ∧ (decode cL_law 547 = .ok (.iadd, 1)) := by decide +kernel
theorem dL_law_540 : decode cL_law 540 = .ok (.iload_n 3, 1) := zqd6_369.1
theorem dL_law_541 : decode cL_law 541 = .ok (.iconst 1, 1) := zqd6_369.2.1
theorem dL_law_542 : decode cL_law 542 = .ok (.iadd, 1) := zqd6_369.2.2.1
theorem dL_law_543 : decode cL_law 543 = .ok (.iaload, 1) := zqd6_369.2.2.2.1
theorem dL_law_544 : decode cL_law 544 = .ok (.aload_n 0, 1) := zqd6_369.2.2.2.2.1
theorem dL_law_545 : decode cL_law 545 = .ok (.iload_n 3, 1) := zqd6_369.2.2.2.2.2.1
theorem dL_law_546 : decode cL_law 546 = .ok (.iconst 2, 1) := zqd6_369.2.2.2.2.2.2.1
theorem dL_law_547 : decode cL_law 547 = .ok (.iadd, 1) := zqd6_369.2.2.2.2.2.2.2
theorem zqd6_378 : (decode cL_law 548 = .ok (.iaload, 1)) ∧ (decode cL_law 549 = .ok (.aload_n 0, 1)) ∧ (decode cL_law 550 = .ok (.iload_n 3, 1)) ∧ (decode cL_law 551 = .ok (.iconst 3, 1)) ∧ (decode cL_law 552 = .ok (.iadd, 1)) ∧ (decode cL_law 553 = .ok (.iaload, 1)) ∧ (decode cL_law 554 = .ok (.aload_n 0, 1)) ∧ (decode cL_law 555 = .ok (.iload_n 3, 1)) := by decide +kernel
theorem dL_law_548 : decode cL_law 548 = .ok (.iaload, 1) := zqd6_378.1
theorem dL_law_549 : decode cL_law 549 = .ok (.aload_n 0, 1) := zqd6_378.2.1
theorem dL_law_550 : decode cL_law 550 = .ok (.iload_n 3, 1) := zqd6_378.2.2.1
theorem dL_law_551 : decode cL_law 551 = .ok (.iconst 3, 1) := zqd6_378.2.2.2.1
theorem dL_law_552 : decode cL_law 552 = .ok (.iadd, 1) := zqd6_378.2.2.2.2.1
theorem dL_law_553 : decode cL_law 553 = .ok (.iaload, 1) := zqd6_378.2.2.2.2.2.1
theorem dL_law_554 : decode cL_law 554 = .ok (.aload_n 0, 1) := zqd6_378.2.2.2.2.2.2.1
theorem dL_law_555 : decode cL_law 555 = .ok (.iload_n 3, 1) := zqd6_378.2.2.2.2.2.2.2
theorem zqd6_387 : (decode cL_law 556 = .ok (.iconst 4, 1)) ∧ (decode cL_law 557 = .ok (.iadd, 1)) ∧ (decode cL_law 558 = .ok (.iaload, 1)) ∧ (decode cL_law 559 = .ok (.aload_n 0, 1)) ∧ (decode cL_law 560 = .ok (.iload_n 3, 1)) ∧ (decode cL_law 561 = .ok (.iconst 5, 1)) ∧ (decode cL_law 562 = .ok (.iadd, 1)) ∧ (decode cL_law 563 = .ok (.iaload, 1)) := by decide +kernel
theorem dL_law_556 : decode cL_law 556 = .ok (.iconst 4, 1) := zqd6_387.1
theorem dL_law_557 : decode cL_law 557 = .ok (.iadd, 1) := zqd6_387.2.1
theorem dL_law_558 : decode cL_law 558 = .ok (.iaload, 1) := zqd6_387.2.2.1
theorem dL_law_559 : decode cL_law 559 = .ok (.aload_n 0, 1) := zqd6_387.2.2.2.1
theorem dL_law_560 : decode cL_law 560 = .ok (.iload_n 3, 1) := zqd6_387.2.2.2.2.1
theorem dL_law_561 : decode cL_law 561 = .ok (.iconst 5, 1) := zqd6_387.2.2.2.2.2.1
theorem dL_law_562 : decode cL_law 562 = .ok (.iadd, 1) := zqd6_387.2.2.2.2.2.2.1
theorem dL_law_563 : decode cL_law 563 = .ok (.iaload, 1) := zqd6_387.2.2.2.2.2.2.2
theorem zqd6_396 : (decode cL_law 564 = .ok (.invokevirtual 52, 3)) ∧ (decode cL_law 567 = .ok (.pop, 1)) ∧ (decode cL_law 568 = .ok (.goto 1268, 3)) ∧ (decode cL_law 571 = .ok (.aload_n 1, 1)) ∧ (decode cL_law 572 = .ok (.aload_n 0, 1)) ∧ (decode cL_law 573 = .ok (.iload_n 3, 1)) ∧ (decode cL_law 574 = .ok (.iconst 1, 1)) ∧ (decode cL_law 575 = .ok (.iadd, 1)) := by decide +kernel
theorem dL_law_564 : decode cL_law 564 = .ok (.invokevirtual 52, 3) := zqd6_396.1
theorem dL_law_567 : decode cL_law 567 = .ok (.pop, 1) := zqd6_396.2.1
theorem dL_law_568 : decode cL_law 568 = .ok (.goto 1268, 3) := zqd6_396.2.2.1
theorem dL_law_571 : decode cL_law 571 = .ok (.aload_n 1, 1) := zqd6_396.2.2.2.1
theorem dL_law_572 : decode cL_law 572 = .ok (.aload_n 0, 1) := zqd6_396.2.2.2.2.1
theorem dL_law_573 : decode cL_law 573 = .ok (.iload_n 3, 1) := zqd6_396.2.2.2.2.2.1
theorem dL_law_574 : decode cL_law 574 = .ok (.iconst 1, 1) := zqd6_396.2.2.2.2.2.2.1
theorem dL_law_575 : decode cL_law 575 = .ok (.iadd, 1) := zqd6_396.2.2.2.2.2.2.2
theorem zqd6_405 : (decode cL_law 576 = .ok (.iaload, 1)) ∧ (decode cL_law 577 = .ok (.aload_n 0, 1)) ∧ (decode cL_law 578 = .ok (.iload_n 3, 1)) ∧ (decode cL_law 579 = .ok (.iconst 2, 1)) ∧ (decode cL_law 580 = .ok (.iadd, 1)) ∧ (decode cL_law 581 = .ok (.iaload, 1)) ∧ (decode cL_law 582 = .ok (.aload_n 0, 1)) ∧ (decode cL_law 583 = .ok (.iload_n 3, 1)) := by decide +kernel
theorem dL_law_576 : decode cL_law 576 = .ok (.iaload, 1) := zqd6_405.1
theorem dL_law_577 : decode cL_law 577 = .ok (.aload_n 0, 1) := zqd6_405.2.1
theorem dL_law_578 : decode cL_law 578 = .ok (.iload_n 3, 1) := zqd6_405.2.2.1
theorem dL_law_579 : decode cL_law 579 = .ok (.iconst 2, 1) := zqd6_405.2.2.2.1
theorem dL_law_580 : decode cL_law 580 = .ok (.iadd, 1) := zqd6_405.2.2.2.2.1
theorem dL_law_581 : decode cL_law 581 = .ok (.iaload, 1) := zqd6_405.2.2.2.2.2.1
theorem dL_law_582 : decode cL_law 582 = .ok (.aload_n 0, 1) := zqd6_405.2.2.2.2.2.2.1
theorem dL_law_583 : decode cL_law 583 = .ok (.iload_n 3, 1) := zqd6_405.2.2.2.2.2.2.2
theorem zqd6_414 : (decode cL_law 584 = .ok (.iconst 3, 1)) ∧ (decode cL_law 585 = .ok (.iadd, 1)) ∧ (decode cL_law 586 = .ok (.iaload, 1)) ∧ (decode cL_law 587 = .ok (.aload_n 0, 1)) ∧ (decode cL_law 588 = .ok (.iload_n 3, 1)) ∧ (decode cL_law 589 = .ok (.iconst 4, 1)) ∧ (decode cL_law 590 = .ok (.iadd, 1)) ∧ (decode cL_law 591 = .ok (.iaload, 1)) := by decide +kernel
theorem dL_law_584 : decode cL_law 584 = .ok (.iconst 3, 1) := zqd6_414.1
theorem dL_law_585 : decode cL_law 585 = .ok (.iadd, 1) := zqd6_414.2.1
theorem dL_law_586 : decode cL_law 586 = .ok (.iaload, 1) := zqd6_414.2.2.1
theorem dL_law_587 : decode cL_law 587 = .ok (.aload_n 0, 1) := zqd6_414.2.2.2.1
theorem dL_law_588 : decode cL_law 588 = .ok (.iload_n 3, 1) := zqd6_414.2.2.2.2.1
theorem dL_law_589 : decode cL_law 589 = .ok (.iconst 4, 1) := zqd6_414.2.2.2.2.2.1
theorem dL_law_590 : decode cL_law 590 = .ok (.iadd, 1) := zqd6_414.2.2.2.2.2.2.1
theorem dL_law_591 : decode cL_law 591 = .ok (.iaload, 1) := zqd6_414.2.2.2.2.2.2.2
theorem zqd6_423 : (decode cL_law 592 = .ok (.aload_n 0, 1)) ∧ (decode cL_law 593 = .ok (.iload_n 3, 1)) ∧ (decode cL_law 594 = .ok (.iconst 5, 1)) ∧ (decode cL_law 595 = .ok (.iadd, 1)) ∧ (decode cL_law 596 = .ok (.iaload, 1)) ∧ (decode cL_law 597 = .ok (.invokevirtual 53, 3)) ∧ (decode cL_law 600 = .ok (.aload_n 2, 1)) ∧ (decode cL_law 601 = .ok (.aload_n 0, 1)) := by decide +kernel
theorem dL_law_592 : decode cL_law 592 = .ok (.aload_n 0, 1) := zqd6_423.1
theorem dL_law_593 : decode cL_law 593 = .ok (.iload_n 3, 1) := zqd6_423.2.1
theorem dL_law_594 : decode cL_law 594 = .ok (.iconst 5, 1) := zqd6_423.2.2.1
theorem dL_law_595 : decode cL_law 595 = .ok (.iadd, 1) := zqd6_423.2.2.2.1
theorem dL_law_596 : decode cL_law 596 = .ok (.iaload, 1) := zqd6_423.2.2.2.2.1
theorem dL_law_597 : decode cL_law 597 = .ok (.invokevirtual 53, 3) := zqd6_423.2.2.2.2.2.1
theorem dL_law_600 : decode cL_law 600 = .ok (.aload_n 2, 1) := zqd6_423.2.2.2.2.2.2.1
theorem dL_law_601 : decode cL_law 601 = .ok (.aload_n 0, 1) := zqd6_423.2.2.2.2.2.2.2
theorem zqd6_432 : (decode cL_law 602 = .ok (.iload_n 3, 1)) ∧ (decode cL_law 603 = .ok (.iconst 1, 1)) ∧ (decode cL_law 604 = .ok (.iadd, 1)) ∧ (decode cL_law 605 = .ok (.iaload, 1)) ∧ (decode cL_law 606 = .ok (.aload_n 0, 1)) ∧ (decode cL_law 607 = .ok (.iload_n 3, 1)) ∧ (decode cL_law 608 = .ok (.iconst 2, 1)) ∧ (decode cL_law 609 = .ok (.iadd, 1)) := by decide +kernel
theorem dL_law_602 : decode cL_law 602 = .ok (.iload_n 3, 1) := zqd6_432.1
theorem dL_law_603 : decode cL_law 603 = .ok (.iconst 1, 1) := zqd6_432.2.1
theorem dL_law_604 : decode cL_law 604 = .ok (.iadd, 1) := zqd6_432.2.2.1
theorem dL_law_605 : decode cL_law 605 = .ok (.iaload, 1) := zqd6_432.2.2.2.1
theorem dL_law_606 : decode cL_law 606 = .ok (.aload_n 0, 1) := zqd6_432.2.2.2.2.1
theorem dL_law_607 : decode cL_law 607 = .ok (.iload_n 3, 1) := zqd6_432.2.2.2.2.2.1
theorem dL_law_608 : decode cL_law 608 = .ok (.iconst 2, 1) := zqd6_432.2.2.2.2.2.2.1
theorem dL_law_609 : decode cL_law 609 = .ok (.iadd, 1) := zqd6_432.2.2.2.2.2.2.2
theorem zqd6_441 : (decode cL_law 610 = .ok (.iaload, 1)) ∧ (decode cL_law 611 = .ok (.aload_n 0, 1)) ∧ (decode cL_law 612 = .ok (.iload_n 3, 1)) ∧ (decode cL_law 613 = .ok (.iconst 3, 1)) ∧ (decode cL_law 614 = .ok (.iadd, 1)) ∧ (decode cL_law 615 = .ok (.iaload, 1)) ∧ (decode cL_law 616 = .ok (.aload_n 0, 1)) ∧ (decode cL_law 617 = .ok (.iload_n 3, 1)) := by decide +kernel
theorem dL_law_610 : decode cL_law 610 = .ok (.iaload, 1) := zqd6_441.1
theorem dL_law_611 : decode cL_law 611 = .ok (.aload_n 0, 1) := zqd6_441.2.1
theorem dL_law_612 : decode cL_law 612 = .ok (.iload_n 3, 1) := zqd6_441.2.2.1
theorem dL_law_613 : decode cL_law 613 = .ok (.iconst 3, 1) := zqd6_441.2.2.2.1
theorem dL_law_614 : decode cL_law 614 = .ok (.iadd, 1) := zqd6_441.2.2.2.2.1
theorem dL_law_615 : decode cL_law 615 = .ok (.iaload, 1) := zqd6_441.2.2.2.2.2.1
theorem dL_law_616 : decode cL_law 616 = .ok (.aload_n 0, 1) := zqd6_441.2.2.2.2.2.2.1
theorem dL_law_617 : decode cL_law 617 = .ok (.iload_n 3, 1) := zqd6_441.2.2.2.2.2.2.2
theorem zqd6_450 : (decode cL_law 618 = .ok (.iconst 4, 1)) ∧ (decode cL_law 619 = .ok (.iadd, 1)) ∧ (decode cL_law 620 = .ok (.iaload, 1)) ∧ (decode cL_law 621 = .ok (.aload_n 0, 1)) ∧ (decode cL_law 622 = .ok (.iload_n 3, 1)) ∧ (decode cL_law 623 = .ok (.iconst 5, 1)) ∧ (decode cL_law 624 = .ok (.iadd, 1)) ∧ (decode cL_law 625 = .ok (.iaload, 1)) := by decide +kernel
theorem dL_law_618 : decode cL_law 618 = .ok (.iconst 4, 1) := zqd6_450.1
theorem dL_law_619 : decode cL_law 619 = .ok (.iadd, 1) := zqd6_450.2.1
theorem dL_law_620 : decode cL_law 620 = .ok (.iaload, 1) := zqd6_450.2.2.1
theorem dL_law_621 : decode cL_law 621 = .ok (.aload_n 0, 1) := zqd6_450.2.2.2.1
theorem dL_law_622 : decode cL_law 622 = .ok (.iload_n 3, 1) := zqd6_450.2.2.2.2.1
theorem dL_law_623 : decode cL_law 623 = .ok (.iconst 5, 1) := zqd6_450.2.2.2.2.2.1
theorem dL_law_624 : decode cL_law 624 = .ok (.iadd, 1) := zqd6_450.2.2.2.2.2.2.1
theorem dL_law_625 : decode cL_law 625 = .ok (.iaload, 1) := zqd6_450.2.2.2.2.2.2.2
theorem zqd6_459 : (decode cL_law 626 = .ok (.invokevirtual 56, 3)) ∧ (decode cL_law 629 = .ok (.if_icmp .eq 1207, 3)) ∧ (decode cL_law 632 = .ok (.iconst 0, 1)) ∧ (decode cL_law 633 = .ok (.ireturn, 1)) ∧ (decode cL_law 634 = .ok (.aload_n 1, 1)) ∧ (decode cL_law 635 = .ok (.aload_n 0, 1)) ∧ (decode cL_law 636 = .ok (.iload_n 3, 1)) ∧ (decode cL_law 637 = .ok (.iconst 1, 1)) := by decide +kernel
theorem dL_law_626 : decode cL_law 626 = .ok (.invokevirtual 56, 3) := zqd6_459.1
theorem dL_law_629 : decode cL_law 629 = .ok (.if_icmp .eq 1207, 3) := zqd6_459.2.1
theorem dL_law_632 : decode cL_law 632 = .ok (.iconst 0, 1) := zqd6_459.2.2.1
theorem dL_law_633 : decode cL_law 633 = .ok (.ireturn, 1) := zqd6_459.2.2.2.1
theorem dL_law_634 : decode cL_law 634 = .ok (.aload_n 1, 1) := zqd6_459.2.2.2.2.1
theorem dL_law_635 : decode cL_law 635 = .ok (.aload_n 0, 1) := zqd6_459.2.2.2.2.2.1
theorem dL_law_636 : decode cL_law 636 = .ok (.iload_n 3, 1) := zqd6_459.2.2.2.2.2.2.1
theorem dL_law_637 : decode cL_law 637 = .ok (.iconst 1, 1) := zqd6_459.2.2.2.2.2.2.2
theorem zqd6_468 : (decode cL_law 638 = .ok (.iadd, 1)) ∧ (decode cL_law 639 = .ok (.iaload, 1)) ∧ (decode cL_law 640 = .ok (.aload_n 0, 1)) ∧ (decode cL_law 641 = .ok (.iload_n 3, 1)) ∧ (decode cL_law 642 = .ok (.iconst 2, 1)) ∧ (decode cL_law 643 = .ok (.iadd, 1)) ∧ (decode cL_law 644 = .ok (.iaload, 1)) ∧ (decode cL_law 645 = .ok (.aload_n 0, 1)) := by decide +kernel
theorem dL_law_638 : decode cL_law 638 = .ok (.iadd, 1) := zqd6_468.1
theorem dL_law_639 : decode cL_law 639 = .ok (.iaload, 1) := zqd6_468.2.1
theorem dL_law_640 : decode cL_law 640 = .ok (.aload_n 0, 1) := zqd6_468.2.2.1
theorem dL_law_641 : decode cL_law 641 = .ok (.iload_n 3, 1) := zqd6_468.2.2.2.1
theorem dL_law_642 : decode cL_law 642 = .ok (.iconst 2, 1) := zqd6_468.2.2.2.2.1
theorem dL_law_643 : decode cL_law 643 = .ok (.iadd, 1) := zqd6_468.2.2.2.2.2.1
theorem dL_law_644 : decode cL_law 644 = .ok (.iaload, 1) := zqd6_468.2.2.2.2.2.2.1
theorem dL_law_645 : decode cL_law 645 = .ok (.aload_n 0, 1) := zqd6_468.2.2.2.2.2.2.2
theorem zqd6_477 : (decode cL_law 646 = .ok (.iload_n 3, 1)) ∧ (decode cL_law 647 = .ok (.iconst 3, 1)) ∧ (decode cL_law 648 = .ok (.iadd, 1)) ∧ (decode cL_law 649 = .ok (.iaload, 1)) ∧ (decode cL_law 650 = .ok (.aload_n 0, 1)) ∧ (decode cL_law 651 = .ok (.iload_n 3, 1)) ∧ (decode cL_law 652 = .ok (.iconst 4, 1)) ∧ (decode cL_law 653 = .ok (.iadd, 1)) := by decide +kernel
theorem dL_law_646 : decode cL_law 646 = .ok (.iload_n 3, 1) := zqd6_477.1
theorem dL_law_647 : decode cL_law 647 = .ok (.iconst 3, 1) := zqd6_477.2.1
theorem dL_law_648 : decode cL_law 648 = .ok (.iadd, 1) := zqd6_477.2.2.1
theorem dL_law_649 : decode cL_law 649 = .ok (.iaload, 1) := zqd6_477.2.2.2.1
theorem dL_law_650 : decode cL_law 650 = .ok (.aload_n 0, 1) := zqd6_477.2.2.2.2.1
theorem dL_law_651 : decode cL_law 651 = .ok (.iload_n 3, 1) := zqd6_477.2.2.2.2.2.1
theorem dL_law_652 : decode cL_law 652 = .ok (.iconst 4, 1) := zqd6_477.2.2.2.2.2.2.1
theorem dL_law_653 : decode cL_law 653 = .ok (.iadd, 1) := zqd6_477.2.2.2.2.2.2.2
theorem zqd6_486 : (decode cL_law 654 = .ok (.iaload, 1)) ∧ (decode cL_law 655 = .ok (.invokevirtual 57, 3)) ∧ (decode cL_law 658 = .ok (.pop, 1)) ∧ (decode cL_law 659 = .ok (.aload_n 2, 1)) ∧ (decode cL_law 660 = .ok (.aload_n 0, 1)) ∧ (decode cL_law 661 = .ok (.iload_n 3, 1)) ∧ (decode cL_law 662 = .ok (.iconst 1, 1)) ∧ (decode cL_law 663 = .ok (.iadd, 1)) := by decide +kernel
theorem dL_law_654 : decode cL_law 654 = .ok (.iaload, 1) := zqd6_486.1
theorem dL_law_655 : decode cL_law 655 = .ok (.invokevirtual 57, 3) := zqd6_486.2.1
theorem dL_law_658 : decode cL_law 658 = .ok (.pop, 1) := zqd6_486.2.2.1
theorem dL_law_659 : decode cL_law 659 = .ok (.aload_n 2, 1) := zqd6_486.2.2.2.1
theorem dL_law_660 : decode cL_law 660 = .ok (.aload_n 0, 1) := zqd6_486.2.2.2.2.1
theorem dL_law_661 : decode cL_law 661 = .ok (.iload_n 3, 1) := zqd6_486.2.2.2.2.2.1
theorem dL_law_662 : decode cL_law 662 = .ok (.iconst 1, 1) := zqd6_486.2.2.2.2.2.2.1
theorem dL_law_663 : decode cL_law 663 = .ok (.iadd, 1) := zqd6_486.2.2.2.2.2.2.2
theorem zqd6_495 : (decode cL_law 664 = .ok (.iaload, 1)) ∧ (decode cL_law 665 = .ok (.aload_n 0, 1)) ∧ (decode cL_law 666 = .ok (.iload_n 3, 1)) ∧ (decode cL_law 667 = .ok (.iconst 2, 1)) ∧ (decode cL_law 668 = .ok (.iadd, 1)) ∧ (decode cL_law 669 = .ok (.iaload, 1)) ∧ (decode cL_law 670 = .ok (.aload_n 0, 1)) ∧ (decode cL_law 671 = .ok (.iload_n 3, 1)) := by decide +kernel
theorem dL_law_664 : decode cL_law 664 = .ok (.iaload, 1) := zqd6_495.1
theorem dL_law_665 : decode cL_law 665 = .ok (.aload_n 0, 1) := zqd6_495.2.1
theorem dL_law_666 : decode cL_law 666 = .ok (.iload_n 3, 1) := zqd6_495.2.2.1
theorem dL_law_667 : decode cL_law 667 = .ok (.iconst 2, 1) := zqd6_495.2.2.2.1
theorem dL_law_668 : decode cL_law 668 = .ok (.iadd, 1) := zqd6_495.2.2.2.2.1
theorem dL_law_669 : decode cL_law 669 = .ok (.iaload, 1) := zqd6_495.2.2.2.2.2.1
theorem dL_law_670 : decode cL_law 670 = .ok (.aload_n 0, 1) := zqd6_495.2.2.2.2.2.2.1
theorem dL_law_671 : decode cL_law 671 = .ok (.iload_n 3, 1) := zqd6_495.2.2.2.2.2.2.2
theorem zqd6_504 : (decode cL_law 672 = .ok (.iconst 3, 1)) ∧ (decode cL_law 673 = .ok (.iadd, 1)) ∧ (decode cL_law 674 = .ok (.iaload, 1)) ∧ (decode cL_law 675 = .ok (.aload_n 0, 1)) ∧ (decode cL_law 676 = .ok (.iload_n 3, 1)) ∧ (decode cL_law 677 = .ok (.iconst 4, 1)) ∧ (decode cL_law 678 = .ok (.iadd, 1)) ∧ (decode cL_law 679 = .ok (.iaload, 1)) := by decide +kernel
theorem dL_law_672 : decode cL_law 672 = .ok (.iconst 3, 1) := zqd6_504.1
theorem dL_law_673 : decode cL_law 673 = .ok (.iadd, 1) := zqd6_504.2.1
theorem dL_law_674 : decode cL_law 674 = .ok (.iaload, 1) := zqd6_504.2.2.1
theorem dL_law_675 : decode cL_law 675 = .ok (.aload_n 0, 1) := zqd6_504.2.2.2.1
theorem dL_law_676 : decode cL_law 676 = .ok (.iload_n 3, 1) := zqd6_504.2.2.2.2.1
theorem dL_law_677 : decode cL_law 677 = .ok (.iconst 4, 1) := zqd6_504.2.2.2.2.2.1
theorem dL_law_678 : decode cL_law 678 = .ok (.iadd, 1) := zqd6_504.2.2.2.2.2.2.1
theorem dL_law_679 : decode cL_law 679 = .ok (.iaload, 1) := zqd6_504.2.2.2.2.2.2.2
theorem zqd6_513 : (decode cL_law 680 = .ok (.invokevirtual 61, 3)) ∧ (decode cL_law 683 = .ok (.pop, 1)) ∧ (decode cL_law 684 = .ok (.goto 1152, 3)) ∧ (decode cL_law 687 = .ok (.aload_n 1, 1)) ∧ (decode cL_law 688 = .ok (.aload_n 0, 1)) ∧ (decode cL_law 689 = .ok (.iload_n 3, 1)) ∧ (decode cL_law 690 = .ok (.iconst 1, 1)) ∧ (decode cL_law 691 = .ok (.iadd, 1)) := by decide +kernel
theorem dL_law_680 : decode cL_law 680 = .ok (.invokevirtual 61, 3) := zqd6_513.1
theorem dL_law_683 : decode cL_law 683 = .ok (.pop, 1) := zqd6_513.2.1
theorem dL_law_684 : decode cL_law 684 = .ok (.goto 1152, 3) := zqd6_513.2.2.1
theorem dL_law_687 : decode cL_law 687 = .ok (.aload_n 1, 1) := zqd6_513.2.2.2.1
theorem dL_law_688 : decode cL_law 688 = .ok (.aload_n 0, 1) := zqd6_513.2.2.2.2.1
theorem dL_law_689 : decode cL_law 689 = .ok (.iload_n 3, 1) := zqd6_513.2.2.2.2.2.1
theorem dL_law_690 : decode cL_law 690 = .ok (.iconst 1, 1) := zqd6_513.2.2.2.2.2.2.1
theorem dL_law_691 : decode cL_law 691 = .ok (.iadd, 1) := zqd6_513.2.2.2.2.2.2.2
theorem zqd6_522 : (decode cL_law 692 = .ok (.iaload, 1)) ∧ (decode cL_law 693 = .ok (.aload_n 0, 1)) ∧ (decode cL_law 694 = .ok (.iload_n 3, 1)) ∧ (decode cL_law 695 = .ok (.iconst 2, 1)) ∧ (decode cL_law 696 = .ok (.iadd, 1)) ∧ (decode cL_law 697 = .ok (.iaload, 1)) ∧ (decode cL_law 698 = .ok (.aload_n 0, 1)) ∧ (decode cL_law 699 = .ok (.iload_n 3, 1)) := by decide +kernel
theorem dL_law_692 : decode cL_law 692 = .ok (.iaload, 1) := zqd6_522.1
theorem dL_law_693 : decode cL_law 693 = .ok (.aload_n 0, 1) := zqd6_522.2.1
theorem dL_law_694 : decode cL_law 694 = .ok (.iload_n 3, 1) := zqd6_522.2.2.1
theorem dL_law_695 : decode cL_law 695 = .ok (.iconst 2, 1) := zqd6_522.2.2.2.1
theorem dL_law_696 : decode cL_law 696 = .ok (.iadd, 1) := zqd6_522.2.2.2.2.1
theorem dL_law_697 : decode cL_law 697 = .ok (.iaload, 1) := zqd6_522.2.2.2.2.2.1
theorem dL_law_698 : decode cL_law 698 = .ok (.aload_n 0, 1) := zqd6_522.2.2.2.2.2.2.1
theorem dL_law_699 : decode cL_law 699 = .ok (.iload_n 3, 1) := zqd6_522.2.2.2.2.2.2.2
theorem zqd6_531 : (decode cL_law 700 = .ok (.iconst 3, 1)) ∧ (decode cL_law 701 = .ok (.iadd, 1)) ∧ (decode cL_law 702 = .ok (.iaload, 1)) ∧ (decode cL_law 703 = .ok (.invokevirtual 62, 3)) ∧ (decode cL_law 706 = .ok (.pop, 1)) ∧ (decode cL_law 707 = .ok (.aload_n 2, 1)) ∧ (decode cL_law 708 = .ok (.aload_n 0, 1)) ∧ (decode cL_law 709 = .ok (.iload_n 3, 1)) := by decide +kernel
theorem dL_law_700 : decode cL_law 700 = .ok (.iconst 3, 1) := zqd6_531.1
theorem dL_law_701 : decode cL_law 701 = .ok (.iadd, 1) := zqd6_531.2.1
theorem dL_law_702 : decode cL_law 702 = .ok (.iaload, 1) := zqd6_531.2.2.1
theorem dL_law_703 : decode cL_law 703 = .ok (.invokevirtual 62, 3) := zqd6_531.2.2.2.1
theorem dL_law_706 : decode cL_law 706 = .ok (.pop, 1) := zqd6_531.2.2.2.2.1
theorem dL_law_707 : decode cL_law 707 = .ok (.aload_n 2, 1) := zqd6_531.2.2.2.2.2.1
theorem dL_law_708 : decode cL_law 708 = .ok (.aload_n 0, 1) := zqd6_531.2.2.2.2.2.2.1
theorem dL_law_709 : decode cL_law 709 = .ok (.iload_n 3, 1) := zqd6_531.2.2.2.2.2.2.2
theorem zqd6_540 : (decode cL_law 710 = .ok (.iconst 1, 1)) ∧ (decode cL_law 711 = .ok (.iadd, 1)) ∧ (decode cL_law 712 = .ok (.iaload, 1)) ∧ (decode cL_law 713 = .ok (.aload_n 0, 1)) ∧ (decode cL_law 714 = .ok (.iload_n 3, 1)) ∧ (decode cL_law 715 = .ok (.iconst 2, 1)) ∧ (decode cL_law 716 = .ok (.iadd, 1)) ∧ (decode cL_law 717 = .ok (.iaload, 1)) := by decide +kernel
theorem dL_law_710 : decode cL_law 710 = .ok (.iconst 1, 1) := zqd6_540.1
theorem dL_law_711 : decode cL_law 711 = .ok (.iadd, 1) := zqd6_540.2.1
theorem dL_law_712 : decode cL_law 712 = .ok (.iaload, 1) := zqd6_540.2.2.1
theorem dL_law_713 : decode cL_law 713 = .ok (.aload_n 0, 1) := zqd6_540.2.2.2.1
theorem dL_law_714 : decode cL_law 714 = .ok (.iload_n 3, 1) := zqd6_540.2.2.2.2.1
theorem dL_law_715 : decode cL_law 715 = .ok (.iconst 2, 1) := zqd6_540.2.2.2.2.2.1
theorem dL_law_716 : decode cL_law 716 = .ok (.iadd, 1) := zqd6_540.2.2.2.2.2.2.1
theorem dL_law_717 : decode cL_law 717 = .ok (.iaload, 1) := zqd6_540.2.2.2.2.2.2.2
theorem zqd6_549 : (decode cL_law 718 = .ok (.aload_n 0, 1)) ∧ (decode cL_law 719 = .ok (.iload_n 3, 1)) ∧ (decode cL_law 720 = .ok (.iconst 3, 1)) ∧ (decode cL_law 721 = .ok (.iadd, 1)) ∧ (decode cL_law 722 = .ok (.iaload, 1)) ∧ (decode cL_law 723 = .ok (.invokevirtual 65, 3)) ∧ (decode cL_law 726 = .ok (.pop, 1)) ∧ (decode cL_law 727 = .ok (.goto 1109, 3)) := by decide +kernel
theorem dL_law_718 : decode cL_law 718 = .ok (.aload_n 0, 1) := zqd6_549.1
theorem dL_law_719 : decode cL_law 719 = .ok (.iload_n 3, 1) := zqd6_549.2.1
theorem dL_law_720 : decode cL_law 720 = .ok (.iconst 3, 1) := zqd6_549.2.2.1
theorem dL_law_721 : decode cL_law 721 = .ok (.iadd, 1) := zqd6_549.2.2.2.1
theorem dL_law_722 : decode cL_law 722 = .ok (.iaload, 1) := zqd6_549.2.2.2.2.1
theorem dL_law_723 : decode cL_law 723 = .ok (.invokevirtual 65, 3) := zqd6_549.2.2.2.2.2.1
theorem dL_law_726 : decode cL_law 726 = .ok (.pop, 1) := zqd6_549.2.2.2.2.2.2.1
theorem dL_law_727 : decode cL_law 727 = .ok (.goto 1109, 3) := zqd6_549.2.2.2.2.2.2.2
theorem zqd6_558 : (decode cL_law 730 = .ok (.aload_n 1, 1)) ∧ (decode cL_law 731 = .ok (.aload_n 0, 1)) ∧ (decode cL_law 732 = .ok (.iload_n 3, 1)) ∧ (decode cL_law 733 = .ok (.iconst 1, 1)) ∧ (decode cL_law 734 = .ok (.iadd, 1)) ∧ (decode cL_law 735 = .ok (.iaload, 1)) ∧ (decode cL_law 736 = .ok (.aload_n 0, 1)) ∧ (decode cL_law 737 = .ok (.iload_n 3, 1)) := by decide +kernel
theorem dL_law_730 : decode cL_law 730 = .ok (.aload_n 1, 1) := zqd6_558.1
theorem dL_law_731 : decode cL_law 731 = .ok (.aload_n 0, 1) := zqd6_558.2.1
theorem dL_law_732 : decode cL_law 732 = .ok (.iload_n 3, 1) := zqd6_558.2.2.1
theorem dL_law_733 : decode cL_law 733 = .ok (.iconst 1, 1) := zqd6_558.2.2.2.1
theorem dL_law_734 : decode cL_law 734 = .ok (.iadd, 1) := zqd6_558.2.2.2.2.1
theorem dL_law_735 : decode cL_law 735 = .ok (.iaload, 1) := zqd6_558.2.2.2.2.2.1
theorem dL_law_736 : decode cL_law 736 = .ok (.aload_n 0, 1) := zqd6_558.2.2.2.2.2.2.1
theorem dL_law_737 : decode cL_law 737 = .ok (.iload_n 3, 1) := zqd6_558.2.2.2.2.2.2.2
theorem zqd6_567 : (decode cL_law 738 = .ok (.iconst 2, 1)) ∧ (decode cL_law 739 = .ok (.iadd, 1)) ∧ (decode cL_law 740 = .ok (.iaload, 1)) ∧ (decode cL_law 741 = .ok (.aload_n 0, 1)) ∧ (decode cL_law 742 = .ok (.iload_n 3, 1)) ∧ (decode cL_law 743 = .ok (.iconst 3, 1)) ∧ (decode cL_law 744 = .ok (.iadd, 1)) ∧ (decode cL_law 745 = .ok (.iaload, 1)) := by decide +kernel
theorem dL_law_738 : decode cL_law 738 = .ok (.iconst 2, 1) := zqd6_567.1
theorem dL_law_739 : decode cL_law 739 = .ok (.iadd, 1) := zqd6_567.2.1
theorem dL_law_740 : decode cL_law 740 = .ok (.iaload, 1) := zqd6_567.2.2.1
theorem dL_law_741 : decode cL_law 741 = .ok (.aload_n 0, 1) := zqd6_567.2.2.2.1
theorem dL_law_742 : decode cL_law 742 = .ok (.iload_n 3, 1) := zqd6_567.2.2.2.2.1
theorem dL_law_743 : decode cL_law 743 = .ok (.iconst 3, 1) := zqd6_567.2.2.2.2.2.1
theorem dL_law_744 : decode cL_law 744 = .ok (.iadd, 1) := zqd6_567.2.2.2.2.2.2.1
theorem dL_law_745 : decode cL_law 745 = .ok (.iaload, 1) := zqd6_567.2.2.2.2.2.2.2
theorem zqd6_576 : (decode cL_law 746 = .ok (.aload_n 0, 1)) ∧ (decode cL_law 747 = .ok (.iload_n 3, 1)) ∧ (decode cL_law 748 = .ok (.iconst 4, 1)) ∧ (decode cL_law 749 = .ok (.iadd, 1)) ∧ (decode cL_law 750 = .ok (.iaload, 1)) ∧ (decode cL_law 751 = .ok (.invokevirtual 66, 3)) ∧ (decode cL_law 754 = .ok (.pop, 1)) ∧ (decode cL_law 755 = .ok (.aload_n 2, 1)) := by decide +kernel
theorem dL_law_746 : decode cL_law 746 = .ok (.aload_n 0, 1) := zqd6_576.1
theorem dL_law_747 : decode cL_law 747 = .ok (.iload_n 3, 1) := zqd6_576.2.1
theorem dL_law_748 : decode cL_law 748 = .ok (.iconst 4, 1) := zqd6_576.2.2.1
theorem dL_law_749 : decode cL_law 749 = .ok (.iadd, 1) := zqd6_576.2.2.2.1
theorem dL_law_750 : decode cL_law 750 = .ok (.iaload, 1) := zqd6_576.2.2.2.2.1
theorem dL_law_751 : decode cL_law 751 = .ok (.invokevirtual 66, 3) := zqd6_576.2.2.2.2.2.1
theorem dL_law_754 : decode cL_law 754 = .ok (.pop, 1) := zqd6_576.2.2.2.2.2.2.1
theorem dL_law_755 : decode cL_law 755 = .ok (.aload_n 2, 1) := zqd6_576.2.2.2.2.2.2.2
theorem zqd6_585 : (decode cL_law 756 = .ok (.aload_n 0, 1)) ∧ (decode cL_law 757 = .ok (.iload_n 3, 1)) ∧ (decode cL_law 758 = .ok (.iconst 1, 1)) ∧ (decode cL_law 759 = .ok (.iadd, 1)) ∧ (decode cL_law 760 = .ok (.iaload, 1)) ∧ (decode cL_law 761 = .ok (.aload_n 0, 1)) ∧ (decode cL_law 762 = .ok (.iload_n 3, 1)) ∧ (decode cL_law 763 = .ok (.iconst 2, 1)) := by decide +kernel
theorem dL_law_756 : decode cL_law 756 = .ok (.aload_n 0, 1) := zqd6_585.1
theorem dL_law_757 : decode cL_law 757 = .ok (.iload_n 3, 1) := zqd6_585.2.1
theorem dL_law_758 : decode cL_law 758 = .ok (.iconst 1, 1) := zqd6_585.2.2.1
theorem dL_law_759 : decode cL_law 759 = .ok (.iadd, 1) := zqd6_585.2.2.2.1
theorem dL_law_760 : decode cL_law 760 = .ok (.iaload, 1) := zqd6_585.2.2.2.2.1
theorem dL_law_761 : decode cL_law 761 = .ok (.aload_n 0, 1) := zqd6_585.2.2.2.2.2.1
theorem dL_law_762 : decode cL_law 762 = .ok (.iload_n 3, 1) := zqd6_585.2.2.2.2.2.2.1
theorem dL_law_763 : decode cL_law 763 = .ok (.iconst 2, 1) := zqd6_585.2.2.2.2.2.2.2
theorem zqd6_594 : (decode cL_law 764 = .ok (.iadd, 1)) ∧ (decode cL_law 765 = .ok (.iaload, 1)) ∧ (decode cL_law 766 = .ok (.aload_n 0, 1)) ∧ (decode cL_law 767 = .ok (.iload_n 3, 1)) ∧ (decode cL_law 768 = .ok (.iconst 3, 1)) ∧ (decode cL_law 769 = .ok (.iadd, 1)) ∧ (decode cL_law 770 = .ok (.iaload, 1)) ∧ (decode cL_law 771 = .ok (.aload_n 0, 1)) := by decide +kernel
theorem dL_law_764 : decode cL_law 764 = .ok (.iadd, 1) := zqd6_594.1
theorem dL_law_765 : decode cL_law 765 = .ok (.iaload, 1) := zqd6_594.2.1
theorem dL_law_766 : decode cL_law 766 = .ok (.aload_n 0, 1) := zqd6_594.2.2.1
theorem dL_law_767 : decode cL_law 767 = .ok (.iload_n 3, 1) := zqd6_594.2.2.2.1
theorem dL_law_768 : decode cL_law 768 = .ok (.iconst 3, 1) := zqd6_594.2.2.2.2.1
theorem dL_law_769 : decode cL_law 769 = .ok (.iadd, 1) := zqd6_594.2.2.2.2.2.1
theorem dL_law_770 : decode cL_law 770 = .ok (.iaload, 1) := zqd6_594.2.2.2.2.2.2.1
theorem dL_law_771 : decode cL_law 771 = .ok (.aload_n 0, 1) := zqd6_594.2.2.2.2.2.2.2
theorem zqd6_603 : (decode cL_law 772 = .ok (.iload_n 3, 1)) ∧ (decode cL_law 773 = .ok (.iconst 4, 1)) ∧ (decode cL_law 774 = .ok (.iadd, 1)) ∧ (decode cL_law 775 = .ok (.iaload, 1)) ∧ (decode cL_law 776 = .ok (.invokevirtual 69, 3)) ∧ (decode cL_law 779 = .ok (.pop, 1)) ∧ (decode cL_law 780 = .ok (.goto 1056, 3)) ∧ (decode cL_law 783 = .ok (.aload_n 1, 1)) := by decide +kernel
theorem dL_law_772 : decode cL_law 772 = .ok (.iload_n 3, 1) := zqd6_603.1
theorem dL_law_773 : decode cL_law 773 = .ok (.iconst 4, 1) := zqd6_603.2.1
theorem dL_law_774 : decode cL_law 774 = .ok (.iadd, 1) := zqd6_603.2.2.1
theorem dL_law_775 : decode cL_law 775 = .ok (.iaload, 1) := zqd6_603.2.2.2.1
theorem dL_law_776 : decode cL_law 776 = .ok (.invokevirtual 69, 3) := zqd6_603.2.2.2.2.1
theorem dL_law_779 : decode cL_law 779 = .ok (.pop, 1) := zqd6_603.2.2.2.2.2.1
theorem dL_law_780 : decode cL_law 780 = .ok (.goto 1056, 3) := zqd6_603.2.2.2.2.2.2.1
theorem dL_law_783 : decode cL_law 783 = .ok (.aload_n 1, 1) := zqd6_603.2.2.2.2.2.2.2
theorem zqd6_612 : (decode cL_law 784 = .ok (.aload_n 0, 1)) ∧ (decode cL_law 785 = .ok (.iload_n 3, 1)) ∧ (decode cL_law 786 = .ok (.iconst 1, 1)) ∧ (decode cL_law 787 = .ok (.iadd, 1)) ∧ (decode cL_law 788 = .ok (.iaload, 1)) ∧ (decode cL_law 789 = .ok (.aload_n 0, 1)) ∧ (decode cL_law 790 = .ok (.iload_n 3, 1)) ∧ (decode cL_law 791 = .ok (.iconst 2, 1)) := by decide +kernel
theorem dL_law_784 : decode cL_law 784 = .ok (.aload_n 0, 1) := zqd6_612.1
theorem dL_law_785 : decode cL_law 785 = .ok (.iload_n 3, 1) := zqd6_612.2.1
theorem dL_law_786 : decode cL_law 786 = .ok (.iconst 1, 1) := zqd6_612.2.2.1
theorem dL_law_787 : decode cL_law 787 = .ok (.iadd, 1) := zqd6_612.2.2.2.1
theorem dL_law_788 : decode cL_law 788 = .ok (.iaload, 1) := zqd6_612.2.2.2.2.1
theorem dL_law_789 : decode cL_law 789 = .ok (.aload_n 0, 1) := zqd6_612.2.2.2.2.2.1
theorem dL_law_790 : decode cL_law 790 = .ok (.iload_n 3, 1) := zqd6_612.2.2.2.2.2.2.1
theorem dL_law_791 : decode cL_law 791 = .ok (.iconst 2, 1) := zqd6_612.2.2.2.2.2.2.2
theorem zqd6_621 : (decode cL_law 792 = .ok (.iadd, 1)) ∧ (decode cL_law 793 = .ok (.iaload, 1)) ∧ (decode cL_law 794 = .ok (.aload_n 0, 1)) ∧ (decode cL_law 795 = .ok (.iload_n 3, 1)) ∧ (decode cL_law 796 = .ok (.iconst 3, 1)) ∧ (decode cL_law 797 = .ok (.iadd, 1)) ∧ (decode cL_law 798 = .ok (.iaload, 1)) ∧ (decode cL_law 799 = .ok (.ifCond .eq 7, 3)) := by decide +kernel
theorem dL_law_792 : decode cL_law 792 = .ok (.iadd, 1) := zqd6_621.1
theorem dL_law_793 : decode cL_law 793 = .ok (.iaload, 1) := zqd6_621.2.1
theorem dL_law_794 : decode cL_law 794 = .ok (.aload_n 0, 1) := zqd6_621.2.2.1
theorem dL_law_795 : decode cL_law 795 = .ok (.iload_n 3, 1) := zqd6_621.2.2.2.1
theorem dL_law_796 : decode cL_law 796 = .ok (.iconst 3, 1) := zqd6_621.2.2.2.2.1
theorem dL_law_797 : decode cL_law 797 = .ok (.iadd, 1) := zqd6_621.2.2.2.2.2.1
theorem dL_law_798 : decode cL_law 798 = .ok (.iaload, 1) := zqd6_621.2.2.2.2.2.2.1
theorem dL_law_799 : decode cL_law 799 = .ok (.ifCond .eq 7, 3) := zqd6_621.2.2.2.2.2.2.2
theorem zqd6_630 : (decode cL_law 802 = .ok (.iconst 1, 1)) ∧ (decode cL_law 803 = .ok (.goto 4, 3)) ∧ (decode cL_law 806 = .ok (.iconst 0, 1)) ∧ (decode cL_law 807 = .ok (.invokevirtual 70, 3)) ∧ (decode cL_law 810 = .ok (.pop2, 1)) ∧ (decode cL_law 811 = .ok (.aload_n 2, 1)) ∧ (decode cL_law 812 = .ok (.aload_n 0, 1)) ∧ (decode cL_law 813 = .ok (.iload_n 3, 1)) := by decide +kernel
theorem dL_law_802 : decode cL_law 802 = .ok (.iconst 1, 1) := zqd6_630.1
theorem dL_law_803 : decode cL_law 803 = .ok (.goto 4, 3) := zqd6_630.2.1
theorem dL_law_806 : decode cL_law 806 = .ok (.iconst 0, 1) := zqd6_630.2.2.1
theorem dL_law_807 : decode cL_law 807 = .ok (.invokevirtual 70, 3) := zqd6_630.2.2.2.1
theorem dL_law_810 : decode cL_law 810 = .ok (.pop2, 1) := zqd6_630.2.2.2.2.1
theorem dL_law_811 : decode cL_law 811 = .ok (.aload_n 2, 1) := zqd6_630.2.2.2.2.2.1
theorem dL_law_812 : decode cL_law 812 = .ok (.aload_n 0, 1) := zqd6_630.2.2.2.2.2.2.1
theorem dL_law_813 : decode cL_law 813 = .ok (.iload_n 3, 1) := zqd6_630.2.2.2.2.2.2.2
theorem zqd6_639 : (decode cL_law 814 = .ok (.iconst 1, 1)) ∧ (decode cL_law 815 = .ok (.iadd, 1)) ∧ (decode cL_law 816 = .ok (.iaload, 1)) ∧ (decode cL_law 817 = .ok (.aload_n 0, 1)) ∧ (decode cL_law 818 = .ok (.iload_n 3, 1)) ∧ (decode cL_law 819 = .ok (.iconst 2, 1)) ∧ (decode cL_law 820 = .ok (.iadd, 1)) ∧ (decode cL_law 821 = .ok (.iaload, 1)) := by decide +kernel
theorem dL_law_814 : decode cL_law 814 = .ok (.iconst 1, 1) := zqd6_639.1
theorem dL_law_815 : decode cL_law 815 = .ok (.iadd, 1) := zqd6_639.2.1
theorem dL_law_816 : decode cL_law 816 = .ok (.iaload, 1) := zqd6_639.2.2.1
theorem dL_law_817 : decode cL_law 817 = .ok (.aload_n 0, 1) := zqd6_639.2.2.2.1
theorem dL_law_818 : decode cL_law 818 = .ok (.iload_n 3, 1) := zqd6_639.2.2.2.2.1
theorem dL_law_819 : decode cL_law 819 = .ok (.iconst 2, 1) := zqd6_639.2.2.2.2.2.1
theorem dL_law_820 : decode cL_law 820 = .ok (.iadd, 1) := zqd6_639.2.2.2.2.2.2.1
theorem dL_law_821 : decode cL_law 821 = .ok (.iaload, 1) := zqd6_639.2.2.2.2.2.2.2
theorem zqd6_648 : (decode cL_law 822 = .ok (.aload_n 0, 1)) ∧ (decode cL_law 823 = .ok (.iload_n 3, 1)) ∧ (decode cL_law 824 = .ok (.iconst 3, 1)) ∧ (decode cL_law 825 = .ok (.iadd, 1)) ∧ (decode cL_law 826 = .ok (.iaload, 1)) ∧ (decode cL_law 827 = .ok (.ifCond .eq 7, 3)) ∧ (decode cL_law 830 = .ok (.iconst 1, 1)) ∧ (decode cL_law 831 = .ok (.goto 4, 3)) := by decide +kernel
theorem dL_law_822 : decode cL_law 822 = .ok (.aload_n 0, 1) := zqd6_648.1
theorem dL_law_823 : decode cL_law 823 = .ok (.iload_n 3, 1) := zqd6_648.2.1
theorem dL_law_824 : decode cL_law 824 = .ok (.iconst 3, 1) := zqd6_648.2.2.1
theorem dL_law_825 : decode cL_law 825 = .ok (.iadd, 1) := zqd6_648.2.2.2.1
theorem dL_law_826 : decode cL_law 826 = .ok (.iaload, 1) := zqd6_648.2.2.2.2.1
theorem dL_law_827 : decode cL_law 827 = .ok (.ifCond .eq 7, 3) := zqd6_648.2.2.2.2.2.1
theorem dL_law_830 : decode cL_law 830 = .ok (.iconst 1, 1) := zqd6_648.2.2.2.2.2.2.1
theorem dL_law_831 : decode cL_law 831 = .ok (.goto 4, 3) := zqd6_648.2.2.2.2.2.2.2
theorem zqd6_657 : (decode cL_law 834 = .ok (.iconst 0, 1)) ∧ (decode cL_law 835 = .ok (.invokevirtual 74, 3)) ∧ (decode cL_law 838 = .ok (.pop2, 1)) ∧ (decode cL_law 839 = .ok (.goto 997, 3)) ∧ (decode cL_law 842 = .ok (.aload_n 1, 1)) ∧ (decode cL_law 843 = .ok (.aload_n 0, 1)) ∧ (decode cL_law 844 = .ok (.iload_n 3, 1)) ∧ (decode cL_law 845 = .ok (.iconst 1, 1)) := by decide +kernel
theorem dL_law_834 : decode cL_law 834 = .ok (.iconst 0, 1) := zqd6_657.1
theorem dL_law_835 : decode cL_law 835 = .ok (.invokevirtual 74, 3) := zqd6_657.2.1
theorem dL_law_838 : decode cL_law 838 = .ok (.pop2, 1) := zqd6_657.2.2.1
theorem dL_law_839 : decode cL_law 839 = .ok (.goto 997, 3) := zqd6_657.2.2.2.1
theorem dL_law_842 : decode cL_law 842 = .ok (.aload_n 1, 1) := zqd6_657.2.2.2.2.1
theorem dL_law_843 : decode cL_law 843 = .ok (.aload_n 0, 1) := zqd6_657.2.2.2.2.2.1
theorem dL_law_844 : decode cL_law 844 = .ok (.iload_n 3, 1) := zqd6_657.2.2.2.2.2.2.1
theorem dL_law_845 : decode cL_law 845 = .ok (.iconst 1, 1) := zqd6_657.2.2.2.2.2.2.2
theorem zqd6_666 : (decode cL_law 846 = .ok (.iadd, 1)) ∧ (decode cL_law 847 = .ok (.iaload, 1)) ∧ (decode cL_law 848 = .ok (.aload_n 0, 1)) ∧ (decode cL_law 849 = .ok (.iload_n 3, 1)) ∧ (decode cL_law 850 = .ok (.iconst 2, 1)) ∧ (decode cL_law 851 = .ok (.iadd, 1)) ∧ (decode cL_law 852 = .ok (.iaload, 1)) ∧ (decode cL_law 853 = .ok (.invokevirtual 75, 3)) := by decide +kernel
theorem dL_law_846 : decode cL_law 846 = .ok (.iadd, 1) := zqd6_666.1
theorem dL_law_847 : decode cL_law 847 = .ok (.iaload, 1) := zqd6_666.2.1
theorem dL_law_848 : decode cL_law 848 = .ok (.aload_n 0, 1) := zqd6_666.2.2.1
theorem dL_law_849 : decode cL_law 849 = .ok (.iload_n 3, 1) := zqd6_666.2.2.2.1
theorem dL_law_850 : decode cL_law 850 = .ok (.iconst 2, 1) := zqd6_666.2.2.2.2.1
theorem dL_law_851 : decode cL_law 851 = .ok (.iadd, 1) := zqd6_666.2.2.2.2.2.1
theorem dL_law_852 : decode cL_law 852 = .ok (.iaload, 1) := zqd6_666.2.2.2.2.2.2.1
theorem dL_law_853 : decode cL_law 853 = .ok (.invokevirtual 75, 3) := zqd6_666.2.2.2.2.2.2.2
theorem zqd6_675 : (decode cL_law 856 = .ok (.pop, 1)) ∧ (decode cL_law 857 = .ok (.aload_n 2, 1)) ∧ (decode cL_law 858 = .ok (.aload_n 0, 1)) ∧ (decode cL_law 859 = .ok (.iload_n 3, 1)) ∧ (decode cL_law 860 = .ok (.iconst 1, 1)) ∧ (decode cL_law 861 = .ok (.iadd, 1)) ∧ (decode cL_law 862 = .ok (.iaload, 1)) ∧ (decode cL_law 863 = .ok (.aload_n 0, 1)) := by decide +kernel
theorem dL_law_856 : decode cL_law 856 = .ok (.pop, 1) := zqd6_675.1
theorem dL_law_857 : decode cL_law 857 = .ok (.aload_n 2, 1) := zqd6_675.2.1
theorem dL_law_858 : decode cL_law 858 = .ok (.aload_n 0, 1) := zqd6_675.2.2.1
theorem dL_law_859 : decode cL_law 859 = .ok (.iload_n 3, 1) := zqd6_675.2.2.2.1
theorem dL_law_860 : decode cL_law 860 = .ok (.iconst 1, 1) := zqd6_675.2.2.2.2.1
theorem dL_law_861 : decode cL_law 861 = .ok (.iadd, 1) := zqd6_675.2.2.2.2.2.1
theorem dL_law_862 : decode cL_law 862 = .ok (.iaload, 1) := zqd6_675.2.2.2.2.2.2.1
theorem dL_law_863 : decode cL_law 863 = .ok (.aload_n 0, 1) := zqd6_675.2.2.2.2.2.2.2
theorem zqd6_684 : (decode cL_law 864 = .ok (.iload_n 3, 1)) ∧ (decode cL_law 865 = .ok (.iconst 2, 1)) ∧ (decode cL_law 866 = .ok (.iadd, 1)) ∧ (decode cL_law 867 = .ok (.iaload, 1)) ∧ (decode cL_law 868 = .ok (.invokevirtual 78, 3)) ∧ (decode cL_law 871 = .ok (.pop, 1)) ∧ (decode cL_law 872 = .ok (.goto 964, 3)) ∧ (decode cL_law 875 = .ok (.aload_n 1, 1)) := by decide +kernel
theorem dL_law_864 : decode cL_law 864 = .ok (.iload_n 3, 1) := zqd6_684.1
theorem dL_law_865 : decode cL_law 865 = .ok (.iconst 2, 1) := zqd6_684.2.1
theorem dL_law_866 : decode cL_law 866 = .ok (.iadd, 1) := zqd6_684.2.2.1
theorem dL_law_867 : decode cL_law 867 = .ok (.iaload, 1) := zqd6_684.2.2.2.1
theorem dL_law_868 : decode cL_law 868 = .ok (.invokevirtual 78, 3) := zqd6_684.2.2.2.2.1
theorem dL_law_871 : decode cL_law 871 = .ok (.pop, 1) := zqd6_684.2.2.2.2.2.1
theorem dL_law_872 : decode cL_law 872 = .ok (.goto 964, 3) := zqd6_684.2.2.2.2.2.2.1
theorem dL_law_875 : decode cL_law 875 = .ok (.aload_n 1, 1) := zqd6_684.2.2.2.2.2.2.2
theorem zqd6_693 : (decode cL_law 876 = .ok (.aload_n 0, 1)) ∧ (decode cL_law 877 = .ok (.iload_n 3, 1)) ∧ (decode cL_law 878 = .ok (.iconst 1, 1)) ∧ (decode cL_law 879 = .ok (.iadd, 1)) ∧ (decode cL_law 880 = .ok (.iaload, 1)) ∧ (decode cL_law 881 = .ok (.aload_n 0, 1)) ∧ (decode cL_law 882 = .ok (.iload_n 3, 1)) ∧ (decode cL_law 883 = .ok (.iconst 2, 1)) := by decide +kernel
theorem dL_law_876 : decode cL_law 876 = .ok (.aload_n 0, 1) := zqd6_693.1
theorem dL_law_877 : decode cL_law 877 = .ok (.iload_n 3, 1) := zqd6_693.2.1
theorem dL_law_878 : decode cL_law 878 = .ok (.iconst 1, 1) := zqd6_693.2.2.1
theorem dL_law_879 : decode cL_law 879 = .ok (.iadd, 1) := zqd6_693.2.2.2.1
theorem dL_law_880 : decode cL_law 880 = .ok (.iaload, 1) := zqd6_693.2.2.2.2.1
theorem dL_law_881 : decode cL_law 881 = .ok (.aload_n 0, 1) := zqd6_693.2.2.2.2.2.1
theorem dL_law_882 : decode cL_law 882 = .ok (.iload_n 3, 1) := zqd6_693.2.2.2.2.2.2.1
theorem dL_law_883 : decode cL_law 883 = .ok (.iconst 2, 1) := zqd6_693.2.2.2.2.2.2.2
theorem zqd6_702 : (decode cL_law 884 = .ok (.iadd, 1)) ∧ (decode cL_law 885 = .ok (.iaload, 1)) ∧ (decode cL_law 886 = .ok (.aload_n 0, 1)) ∧ (decode cL_law 887 = .ok (.iload_n 3, 1)) ∧ (decode cL_law 888 = .ok (.iconst 3, 1)) ∧ (decode cL_law 889 = .ok (.iadd, 1)) ∧ (decode cL_law 890 = .ok (.iaload, 1)) ∧ (decode cL_law 891 = .ok (.aload_n 0, 1)) := by decide +kernel
theorem dL_law_884 : decode cL_law 884 = .ok (.iadd, 1) := zqd6_702.1
theorem dL_law_885 : decode cL_law 885 = .ok (.iaload, 1) := zqd6_702.2.1
theorem dL_law_886 : decode cL_law 886 = .ok (.aload_n 0, 1) := zqd6_702.2.2.1
theorem dL_law_887 : decode cL_law 887 = .ok (.iload_n 3, 1) := zqd6_702.2.2.2.1
theorem dL_law_888 : decode cL_law 888 = .ok (.iconst 3, 1) := zqd6_702.2.2.2.2.1
theorem dL_law_889 : decode cL_law 889 = .ok (.iadd, 1) := zqd6_702.2.2.2.2.2.1
theorem dL_law_890 : decode cL_law 890 = .ok (.iaload, 1) := zqd6_702.2.2.2.2.2.2.1
theorem dL_law_891 : decode cL_law 891 = .ok (.aload_n 0, 1) := zqd6_702.2.2.2.2.2.2.2
theorem zqd6_711 : (decode cL_law 892 = .ok (.iload_n 3, 1)) ∧ (decode cL_law 893 = .ok (.iconst 4, 1)) ∧ (decode cL_law 894 = .ok (.iadd, 1)) ∧ (decode cL_law 895 = .ok (.iaload, 1)) ∧ (decode cL_law 896 = .ok (.aload_n 0, 1)) ∧ (decode cL_law 897 = .ok (.iload_n 3, 1)) ∧ (decode cL_law 898 = .ok (.iconst 5, 1)) ∧ (decode cL_law 899 = .ok (.iadd, 1)) := by decide +kernel
theorem dL_law_892 : decode cL_law 892 = .ok (.iload_n 3, 1) := zqd6_711.1
theorem dL_law_893 : decode cL_law 893 = .ok (.iconst 4, 1) := zqd6_711.2.1
theorem dL_law_894 : decode cL_law 894 = .ok (.iadd, 1) := zqd6_711.2.2.1
theorem dL_law_895 : decode cL_law 895 = .ok (.iaload, 1) := zqd6_711.2.2.2.1
theorem dL_law_896 : decode cL_law 896 = .ok (.aload_n 0, 1) := zqd6_711.2.2.2.2.1
theorem dL_law_897 : decode cL_law 897 = .ok (.iload_n 3, 1) := zqd6_711.2.2.2.2.2.1
theorem dL_law_898 : decode cL_law 898 = .ok (.iconst 5, 1) := zqd6_711.2.2.2.2.2.2.1
theorem dL_law_899 : decode cL_law 899 = .ok (.iadd, 1) := zqd6_711.2.2.2.2.2.2.2
theorem zqd6_720 : (decode cL_law 900 = .ok (.iaload, 1)) ∧ (decode cL_law 901 = .ok (.invokevirtual 79, 3)) ∧ (decode cL_law 904 = .ok (.pop, 1)) ∧ (decode cL_law 905 = .ok (.aload_n 2, 1)) ∧ (decode cL_law 906 = .ok (.aload_n 0, 1)) ∧ (decode cL_law 907 = .ok (.iload_n 3, 1)) ∧ (decode cL_law 908 = .ok (.iconst 1, 1)) ∧ (decode cL_law 909 = .ok (.iadd, 1)) := by decide +kernel
theorem dL_law_900 : decode cL_law 900 = .ok (.iaload, 1) := zqd6_720.1
theorem dL_law_901 : decode cL_law 901 = .ok (.invokevirtual 79, 3) := zqd6_720.2.1
theorem dL_law_904 : decode cL_law 904 = .ok (.pop, 1) := zqd6_720.2.2.1
theorem dL_law_905 : decode cL_law 905 = .ok (.aload_n 2, 1) := zqd6_720.2.2.2.1
theorem dL_law_906 : decode cL_law 906 = .ok (.aload_n 0, 1) := zqd6_720.2.2.2.2.1
theorem dL_law_907 : decode cL_law 907 = .ok (.iload_n 3, 1) := zqd6_720.2.2.2.2.2.1
theorem dL_law_908 : decode cL_law 908 = .ok (.iconst 1, 1) := zqd6_720.2.2.2.2.2.2.1
theorem dL_law_909 : decode cL_law 909 = .ok (.iadd, 1) := zqd6_720.2.2.2.2.2.2.2
theorem zqd6_729 : (decode cL_law 910 = .ok (.iaload, 1)) ∧ (decode cL_law 911 = .ok (.aload_n 0, 1)) ∧ (decode cL_law 912 = .ok (.iload_n 3, 1)) ∧ (decode cL_law 913 = .ok (.iconst 2, 1)) ∧ (decode cL_law 914 = .ok (.iadd, 1)) ∧ (decode cL_law 915 = .ok (.iaload, 1)) ∧ (decode cL_law 916 = .ok (.aload_n 0, 1)) ∧ (decode cL_law 917 = .ok (.iload_n 3, 1)) := by decide +kernel
theorem dL_law_910 : decode cL_law 910 = .ok (.iaload, 1) := zqd6_729.1
theorem dL_law_911 : decode cL_law 911 = .ok (.aload_n 0, 1) := zqd6_729.2.1
theorem dL_law_912 : decode cL_law 912 = .ok (.iload_n 3, 1) := zqd6_729.2.2.1
theorem dL_law_913 : decode cL_law 913 = .ok (.iconst 2, 1) := zqd6_729.2.2.2.1
theorem dL_law_914 : decode cL_law 914 = .ok (.iadd, 1) := zqd6_729.2.2.2.2.1
theorem dL_law_915 : decode cL_law 915 = .ok (.iaload, 1) := zqd6_729.2.2.2.2.2.1
theorem dL_law_916 : decode cL_law 916 = .ok (.aload_n 0, 1) := zqd6_729.2.2.2.2.2.2.1
theorem dL_law_917 : decode cL_law 917 = .ok (.iload_n 3, 1) := zqd6_729.2.2.2.2.2.2.2
theorem zqd6_738 : (decode cL_law 918 = .ok (.iconst 3, 1)) ∧ (decode cL_law 919 = .ok (.iadd, 1)) ∧ (decode cL_law 920 = .ok (.iaload, 1)) ∧ (decode cL_law 921 = .ok (.aload_n 0, 1)) ∧ (decode cL_law 922 = .ok (.iload_n 3, 1)) ∧ (decode cL_law 923 = .ok (.iconst 4, 1)) ∧ (decode cL_law 924 = .ok (.iadd, 1)) ∧ (decode cL_law 925 = .ok (.iaload, 1)) := by decide +kernel
theorem dL_law_918 : decode cL_law 918 = .ok (.iconst 3, 1) := zqd6_738.1
theorem dL_law_919 : decode cL_law 919 = .ok (.iadd, 1) := zqd6_738.2.1
theorem dL_law_920 : decode cL_law 920 = .ok (.iaload, 1) := zqd6_738.2.2.1
theorem dL_law_921 : decode cL_law 921 = .ok (.aload_n 0, 1) := zqd6_738.2.2.2.1
theorem dL_law_922 : decode cL_law 922 = .ok (.iload_n 3, 1) := zqd6_738.2.2.2.2.1
theorem dL_law_923 : decode cL_law 923 = .ok (.iconst 4, 1) := zqd6_738.2.2.2.2.2.1
theorem dL_law_924 : decode cL_law 924 = .ok (.iadd, 1) := zqd6_738.2.2.2.2.2.2.1
theorem dL_law_925 : decode cL_law 925 = .ok (.iaload, 1) := zqd6_738.2.2.2.2.2.2.2
theorem zqd6_747 : (decode cL_law 926 = .ok (.aload_n 0, 1)) ∧ (decode cL_law 927 = .ok (.iload_n 3, 1)) ∧ (decode cL_law 928 = .ok (.iconst 5, 1)) ∧ (decode cL_law 929 = .ok (.iadd, 1)) ∧ (decode cL_law 930 = .ok (.iaload, 1)) ∧ (decode cL_law 931 = .ok (.invokevirtual 82, 3)) ∧ (decode cL_law 934 = .ok (.pop, 1)) ∧ (decode cL_law 935 = .ok (.goto 901, 3)) := by decide +kernel
theorem dL_law_926 : decode cL_law 926 = .ok (.aload_n 0, 1) := zqd6_747.1
theorem dL_law_927 : decode cL_law 927 = .ok (.iload_n 3, 1) := zqd6_747.2.1
theorem dL_law_928 : decode cL_law 928 = .ok (.iconst 5, 1) := zqd6_747.2.2.1
theorem dL_law_929 : decode cL_law 929 = .ok (.iadd, 1) := zqd6_747.2.2.2.1
theorem dL_law_930 : decode cL_law 930 = .ok (.iaload, 1) := zqd6_747.2.2.2.2.1
theorem dL_law_931 : decode cL_law 931 = .ok (.invokevirtual 82, 3) := zqd6_747.2.2.2.2.2.1
theorem dL_law_934 : decode cL_law 934 = .ok (.pop, 1) := zqd6_747.2.2.2.2.2.2.1
theorem dL_law_935 : decode cL_law 935 = .ok (.goto 901, 3) := zqd6_747.2.2.2.2.2.2.2
theorem zqd6_756 : (decode cL_law 938 = .ok (.aload_n 1, 1)) ∧ (decode cL_law 939 = .ok (.aload_n 0, 1)) ∧ (decode cL_law 940 = .ok (.iload_n 3, 1)) ∧ (decode cL_law 941 = .ok (.iconst 1, 1)) ∧ (decode cL_law 942 = .ok (.iadd, 1)) ∧ (decode cL_law 943 = .ok (.iaload, 1)) ∧ (decode cL_law 944 = .ok (.aload_n 0, 1)) ∧ (decode cL_law 945 = .ok (.iload_n 3, 1)) := by decide +kernel
theorem dL_law_938 : decode cL_law 938 = .ok (.aload_n 1, 1) := zqd6_756.1
theorem dL_law_939 : decode cL_law 939 = .ok (.aload_n 0, 1) := zqd6_756.2.1
theorem dL_law_940 : decode cL_law 940 = .ok (.iload_n 3, 1) := zqd6_756.2.2.1
theorem dL_law_941 : decode cL_law 941 = .ok (.iconst 1, 1) := zqd6_756.2.2.2.1
theorem dL_law_942 : decode cL_law 942 = .ok (.iadd, 1) := zqd6_756.2.2.2.2.1
theorem dL_law_943 : decode cL_law 943 = .ok (.iaload, 1) := zqd6_756.2.2.2.2.2.1
theorem dL_law_944 : decode cL_law 944 = .ok (.aload_n 0, 1) := zqd6_756.2.2.2.2.2.2.1
theorem dL_law_945 : decode cL_law 945 = .ok (.iload_n 3, 1) := zqd6_756.2.2.2.2.2.2.2
theorem zqd6_765 : (decode cL_law 946 = .ok (.iconst 2, 1)) ∧ (decode cL_law 947 = .ok (.iadd, 1)) ∧ (decode cL_law 948 = .ok (.iaload, 1)) ∧ (decode cL_law 949 = .ok (.aload_n 0, 1)) ∧ (decode cL_law 950 = .ok (.iload_n 3, 1)) ∧ (decode cL_law 951 = .ok (.iconst 3, 1)) ∧ (decode cL_law 952 = .ok (.iadd, 1)) ∧ (decode cL_law 953 = .ok (.iaload, 1)) := by decide +kernel
theorem dL_law_946 : decode cL_law 946 = .ok (.iconst 2, 1) := zqd6_765.1
theorem dL_law_947 : decode cL_law 947 = .ok (.iadd, 1) := zqd6_765.2.1
theorem dL_law_948 : decode cL_law 948 = .ok (.iaload, 1) := zqd6_765.2.2.1
theorem dL_law_949 : decode cL_law 949 = .ok (.aload_n 0, 1) := zqd6_765.2.2.2.1
theorem dL_law_950 : decode cL_law 950 = .ok (.iload_n 3, 1) := zqd6_765.2.2.2.2.1
theorem dL_law_951 : decode cL_law 951 = .ok (.iconst 3, 1) := zqd6_765.2.2.2.2.2.1
theorem dL_law_952 : decode cL_law 952 = .ok (.iadd, 1) := zqd6_765.2.2.2.2.2.2.1
theorem dL_law_953 : decode cL_law 953 = .ok (.iaload, 1) := zqd6_765.2.2.2.2.2.2.2
theorem zqd6_774 : (decode cL_law 954 = .ok (.aload_n 0, 1)) ∧ (decode cL_law 955 = .ok (.iload_n 3, 1)) ∧ (decode cL_law 956 = .ok (.iconst 4, 1)) ∧ (decode cL_law 957 = .ok (.iadd, 1)) ∧ (decode cL_law 958 = .ok (.iaload, 1)) ∧ (decode cL_law 959 = .ok (.aload_n 0, 1)) ∧ (decode cL_law 960 = .ok (.iload_n 3, 1)) ∧ (decode cL_law 961 = .ok (.iconst 5, 1)) := by decide +kernel
theorem dL_law_954 : decode cL_law 954 = .ok (.aload_n 0, 1) := zqd6_774.1
theorem dL_law_955 : decode cL_law 955 = .ok (.iload_n 3, 1) := zqd6_774.2.1
theorem dL_law_956 : decode cL_law 956 = .ok (.iconst 4, 1) := zqd6_774.2.2.1
theorem dL_law_957 : decode cL_law 957 = .ok (.iadd, 1) := zqd6_774.2.2.2.1
theorem dL_law_958 : decode cL_law 958 = .ok (.iaload, 1) := zqd6_774.2.2.2.2.1
theorem dL_law_959 : decode cL_law 959 = .ok (.aload_n 0, 1) := zqd6_774.2.2.2.2.2.1
theorem dL_law_960 : decode cL_law 960 = .ok (.iload_n 3, 1) := zqd6_774.2.2.2.2.2.2.1
theorem dL_law_961 : decode cL_law 961 = .ok (.iconst 5, 1) := zqd6_774.2.2.2.2.2.2.2
theorem zqd6_783 : (decode cL_law 962 = .ok (.iadd, 1)) ∧ (decode cL_law 963 = .ok (.iaload, 1)) ∧ (decode cL_law 964 = .ok (.invokevirtual 83, 3)) ∧ (decode cL_law 967 = .ok (.pop, 1)) ∧ (decode cL_law 968 = .ok (.aload_n 2, 1)) ∧ (decode cL_law 969 = .ok (.aload_n 0, 1)) ∧ (decode cL_law 970 = .ok (.iload_n 3, 1)) ∧ (decode cL_law 971 = .ok (.iconst 1, 1)) := by decide +kernel
theorem dL_law_962 : decode cL_law 962 = .ok (.iadd, 1) := zqd6_783.1
theorem dL_law_963 : decode cL_law 963 = .ok (.iaload, 1) := zqd6_783.2.1
theorem dL_law_964 : decode cL_law 964 = .ok (.invokevirtual 83, 3) := zqd6_783.2.2.1
theorem dL_law_967 : decode cL_law 967 = .ok (.pop, 1) := zqd6_783.2.2.2.1
theorem dL_law_968 : decode cL_law 968 = .ok (.aload_n 2, 1) := zqd6_783.2.2.2.2.1
theorem dL_law_969 : decode cL_law 969 = .ok (.aload_n 0, 1) := zqd6_783.2.2.2.2.2.1
theorem dL_law_970 : decode cL_law 970 = .ok (.iload_n 3, 1) := zqd6_783.2.2.2.2.2.2.1
theorem dL_law_971 : decode cL_law 971 = .ok (.iconst 1, 1) := zqd6_783.2.2.2.2.2.2.2
theorem zqd6_792 : (decode cL_law 972 = .ok (.iadd, 1)) ∧ (decode cL_law 973 = .ok (.iaload, 1)) ∧ (decode cL_law 974 = .ok (.aload_n 0, 1)) ∧ (decode cL_law 975 = .ok (.iload_n 3, 1)) ∧ (decode cL_law 976 = .ok (.iconst 2, 1)) ∧ (decode cL_law 977 = .ok (.iadd, 1)) ∧ (decode cL_law 978 = .ok (.iaload, 1)) ∧ (decode cL_law 979 = .ok (.aload_n 0, 1)) := by decide +kernel
theorem dL_law_972 : decode cL_law 972 = .ok (.iadd, 1) := zqd6_792.1
theorem dL_law_973 : decode cL_law 973 = .ok (.iaload, 1) := zqd6_792.2.1
theorem dL_law_974 : decode cL_law 974 = .ok (.aload_n 0, 1) := zqd6_792.2.2.1
theorem dL_law_975 : decode cL_law 975 = .ok (.iload_n 3, 1) := zqd6_792.2.2.2.1
theorem dL_law_976 : decode cL_law 976 = .ok (.iconst 2, 1) := zqd6_792.2.2.2.2.1
theorem dL_law_977 : decode cL_law 977 = .ok (.iadd, 1) := zqd6_792.2.2.2.2.2.1
theorem dL_law_978 : decode cL_law 978 = .ok (.iaload, 1) := zqd6_792.2.2.2.2.2.2.1
theorem dL_law_979 : decode cL_law 979 = .ok (.aload_n 0, 1) := zqd6_792.2.2.2.2.2.2.2
theorem zqd6_801 : (decode cL_law 980 = .ok (.iload_n 3, 1)) ∧ (decode cL_law 981 = .ok (.iconst 3, 1)) ∧ (decode cL_law 982 = .ok (.iadd, 1)) ∧ (decode cL_law 983 = .ok (.iaload, 1)) ∧ (decode cL_law 984 = .ok (.aload_n 0, 1)) ∧ (decode cL_law 985 = .ok (.iload_n 3, 1)) ∧ (decode cL_law 986 = .ok (.iconst 4, 1)) ∧ (decode cL_law 987 = .ok (.iadd, 1)) := by decide +kernel
theorem dL_law_980 : decode cL_law 980 = .ok (.iload_n 3, 1) := zqd6_801.1
theorem dL_law_981 : decode cL_law 981 = .ok (.iconst 3, 1) := zqd6_801.2.1
theorem dL_law_982 : decode cL_law 982 = .ok (.iadd, 1) := zqd6_801.2.2.1
theorem dL_law_983 : decode cL_law 983 = .ok (.iaload, 1) := zqd6_801.2.2.2.1
theorem dL_law_984 : decode cL_law 984 = .ok (.aload_n 0, 1) := zqd6_801.2.2.2.2.1
theorem dL_law_985 : decode cL_law 985 = .ok (.iload_n 3, 1) := zqd6_801.2.2.2.2.2.1
theorem dL_law_986 : decode cL_law 986 = .ok (.iconst 4, 1) := zqd6_801.2.2.2.2.2.2.1
theorem dL_law_987 : decode cL_law 987 = .ok (.iadd, 1) := zqd6_801.2.2.2.2.2.2.2
