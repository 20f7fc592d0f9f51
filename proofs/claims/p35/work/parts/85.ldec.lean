/-! THE LAW: its instructions and its calls -/
theorem dLq_0 : (decode code 0 = .ok (.new 7, 3)) ∧ (decode code 3 = .ok (.dup, 1)) ∧ (decode code 4 = .ok (.invokespecial 9, 3)) ∧ (decode code 7 = .ok (.astore_n 1, 1)) ∧ (decode code 8 = .ok (.new 10, 3)) ∧ (decode code 11 = .ok (.dup, 1)) ∧ (decode code 12 = .ok (.invokespecial 12, 3)) ∧ (decode code 15 = .ok (.astore_n 2, 1)) ∧ (decode code 16 = .ok (.iconst 0, 1)) ∧ (decode code 17 = .ok (.istore_n 3, 1)) ∧ (decode code 18 = .ok (.iload_n 3, 1)) ∧ (decode code 19 = .ok (.aload_n 0, 1)) ∧ (decode code 20 = .ok (.arraylength, 1)) ∧ (decode code 21 = .ok (.bipush 6, 2)) ∧ (decode code 23 = .ok (.isub, 1)) ∧ (decode code 24 = .ok (.if_icmp .gt 1463, 3)) := by decide +kernel
theorem dL_law_0 : decode code 0 = .ok (.new 7, 3) := dLq_0.1
theorem dL_law_3 : decode code 3 = .ok (.dup, 1) := dLq_0.2.1
theorem dL_law_4 : decode code 4 = .ok (.invokespecial 9, 3) := dLq_0.2.2.1
theorem dL_law_7 : decode code 7 = .ok (.astore_n 1, 1) := dLq_0.2.2.2.1
theorem dL_law_8 : decode code 8 = .ok (.new 10, 3) := dLq_0.2.2.2.2.1
theorem dL_law_11 : decode code 11 = .ok (.dup, 1) := dLq_0.2.2.2.2.2.1
theorem dL_law_12 : decode code 12 = .ok (.invokespecial 12, 3) := dLq_0.2.2.2.2.2.2.1
theorem dL_law_15 : decode code 15 = .ok (.astore_n 2, 1) := dLq_0.2.2.2.2.2.2.2.1
theorem dL_law_16 : decode code 16 = .ok (.iconst 0, 1) := dLq_0.2.2.2.2.2.2.2.2.1
theorem dL_law_17 : decode code 17 = .ok (.istore_n 3, 1) := dLq_0.2.2.2.2.2.2.2.2.2.1
theorem dL_law_18 : decode code 18 = .ok (.iload_n 3, 1) := dLq_0.2.2.2.2.2.2.2.2.2.2.1
theorem dL_law_19 : decode code 19 = .ok (.aload_n 0, 1) := dLq_0.2.2.2.2.2.2.2.2.2.2.2.1
theorem dL_law_20 : decode code 20 = .ok (.arraylength, 1) := dLq_0.2.2.2.2.2.2.2.2.2.2.2.2.1
theorem dL_law_21 : decode code 21 = .ok (.bipush 6, 2) := dLq_0.2.2.2.2.2.2.2.2.2.2.2.2.2.1
theorem dL_law_23 : decode code 23 = .ok (.isub, 1) := dLq_0.2.2.2.2.2.2.2.2.2.2.2.2.2.2.1
theorem dL_law_24 : decode code 24 = .ok (.if_icmp .gt 1463, 3) := dLq_0.2.2.2.2.2.2.2.2.2.2.2.2.2.2.2
theorem dLq_27 : (decode code 27 = .ok (.aload_n 0, 1)) ∧ (decode code 28 = .ok (.iload_n 3, 1)) ∧ (decode code 29 = .ok (.iaload, 1)) ∧ (decode code 30 = .ok (.bipush 63, 2)) ∧ (decode code 32 = .ok (.iand, 1)) ∧ (decode code 33 = .ok (.tableswitch 1448 0 34 #[155, 188, 241, 274, 337, 400, 433, 486, 519, 568, 601, 624, 667, 690, 753, 776, 789, 812, 835, 878, 931, 954, 987, 1020, 1053, 1086, 1119, 1142, 1185, 1218, 1277, 1320, 1353, 1386, 1425], 155)) ∧ (decode code 188 = .ok (.aload_n 1, 1)) ∧ (decode code 189 = .ok (.aload_n 0, 1)) ∧ (decode code 190 = .ok (.iload_n 3, 1)) ∧ (decode code 191 = .ok (.iconst 1, 1)) ∧ (decode code 192 = .ok (.iadd, 1)) ∧ (decode code 193 = .ok (.iaload, 1)) ∧ (decode code 194 = .ok (.aload_n 0, 1)) ∧ (decode code 195 = .ok (.iload_n 3, 1)) ∧ (decode code 196 = .ok (.iconst 2, 1)) ∧ (decode code 197 = .ok (.iadd, 1)) := by decide +kernel
theorem dL_law_27 : decode code 27 = .ok (.aload_n 0, 1) := dLq_27.1
theorem dL_law_28 : decode code 28 = .ok (.iload_n 3, 1) := dLq_27.2.1
theorem dL_law_29 : decode code 29 = .ok (.iaload, 1) := dLq_27.2.2.1
theorem dL_law_30 : decode code 30 = .ok (.bipush 63, 2) := dLq_27.2.2.2.1
theorem dL_law_32 : decode code 32 = .ok (.iand, 1) := dLq_27.2.2.2.2.1
theorem dL_law_33 : decode code 33 = .ok (.tableswitch 1448 0 34 #[155, 188, 241, 274, 337, 400, 433, 486, 519, 568, 601, 624, 667, 690, 753, 776, 789, 812, 835, 878, 931, 954, 987, 1020, 1053, 1086, 1119, 1142, 1185, 1218, 1277, 1320, 1353, 1386, 1425], 155) := dLq_27.2.2.2.2.2.1
theorem dL_law_188 : decode code 188 = .ok (.aload_n 1, 1) := dLq_27.2.2.2.2.2.2.1
theorem dL_law_189 : decode code 189 = .ok (.aload_n 0, 1) := dLq_27.2.2.2.2.2.2.2.1
theorem dL_law_190 : decode code 190 = .ok (.iload_n 3, 1) := dLq_27.2.2.2.2.2.2.2.2.1
theorem dL_law_191 : decode code 191 = .ok (.iconst 1, 1) := dLq_27.2.2.2.2.2.2.2.2.2.1
theorem dL_law_192 : decode code 192 = .ok (.iadd, 1) := dLq_27.2.2.2.2.2.2.2.2.2.2.1
theorem dL_law_193 : decode code 193 = .ok (.iaload, 1) := dLq_27.2.2.2.2.2.2.2.2.2.2.2.1
theorem dL_law_194 : decode code 194 = .ok (.aload_n 0, 1) := dLq_27.2.2.2.2.2.2.2.2.2.2.2.2.1
theorem dL_law_195 : decode code 195 = .ok (.iload_n 3, 1) := dLq_27.2.2.2.2.2.2.2.2.2.2.2.2.2.1
theorem dL_law_196 : decode code 196 = .ok (.iconst 2, 1) := dLq_27.2.2.2.2.2.2.2.2.2.2.2.2.2.2.1
theorem dL_law_197 : decode code 197 = .ok (.iadd, 1) := dLq_27.2.2.2.2.2.2.2.2.2.2.2.2.2.2.2
theorem dLq_198 : (decode code 198 = .ok (.iaload, 1)) ∧ (decode code 199 = .ok (.invokevirtual 13, 3)) ∧ (decode code 202 = .ok (.pop, 1)) ∧ (decode code 203 = .ok (.aload_n 2, 1)) ∧ (decode code 204 = .ok (.aload_n 0, 1)) ∧ (decode code 205 = .ok (.iload_n 3, 1)) ∧ (decode code 206 = .ok (.iconst 1, 1)) ∧ (decode code 207 = .ok (.iadd, 1)) ∧ (decode code 208 = .ok (.iaload, 1)) ∧ (decode code 209 = .ok (.aload_n 0, 1)) ∧ (decode code 210 = .ok (.iload_n 3, 1)) ∧ (decode code 211 = .ok (.iconst 2, 1)) ∧ (decode code 212 = .ok (.iadd, 1)) ∧ (decode code 213 = .ok (.iaload, 1)) ∧ (decode code 214 = .ok (.invokevirtual 17, 3)) ∧ (decode code 217 = .ok (.pop, 1)) := by decide +kernel
theorem dL_law_198 : decode code 198 = .ok (.iaload, 1) := dLq_198.1
theorem dL_law_199 : decode code 199 = .ok (.invokevirtual 13, 3) := dLq_198.2.1
theorem dL_law_202 : decode code 202 = .ok (.pop, 1) := dLq_198.2.2.1
theorem dL_law_203 : decode code 203 = .ok (.aload_n 2, 1) := dLq_198.2.2.2.1
theorem dL_law_204 : decode code 204 = .ok (.aload_n 0, 1) := dLq_198.2.2.2.2.1
theorem dL_law_205 : decode code 205 = .ok (.iload_n 3, 1) := dLq_198.2.2.2.2.2.1
theorem dL_law_206 : decode code 206 = .ok (.iconst 1, 1) := dLq_198.2.2.2.2.2.2.1
theorem dL_law_207 : decode code 207 = .ok (.iadd, 1) := dLq_198.2.2.2.2.2.2.2.1
theorem dL_law_208 : decode code 208 = .ok (.iaload, 1) := dLq_198.2.2.2.2.2.2.2.2.1
theorem dL_law_209 : decode code 209 = .ok (.aload_n 0, 1) := dLq_198.2.2.2.2.2.2.2.2.2.1
theorem dL_law_210 : decode code 210 = .ok (.iload_n 3, 1) := dLq_198.2.2.2.2.2.2.2.2.2.2.1
theorem dL_law_211 : decode code 211 = .ok (.iconst 2, 1) := dLq_198.2.2.2.2.2.2.2.2.2.2.2.1
theorem dL_law_212 : decode code 212 = .ok (.iadd, 1) := dLq_198.2.2.2.2.2.2.2.2.2.2.2.2.1
theorem dL_law_213 : decode code 213 = .ok (.iaload, 1) := dLq_198.2.2.2.2.2.2.2.2.2.2.2.2.2.1
theorem dL_law_214 : decode code 214 = .ok (.invokevirtual 17, 3) := dLq_198.2.2.2.2.2.2.2.2.2.2.2.2.2.2.1
theorem dL_law_217 : decode code 217 = .ok (.pop, 1) := dLq_198.2.2.2.2.2.2.2.2.2.2.2.2.2.2.2
theorem dLq_218 : (decode code 218 = .ok (.goto 1263, 3)) ∧ (decode code 221 = .ok (.aload_n 1, 1)) ∧ (decode code 222 = .ok (.aload_n 0, 1)) ∧ (decode code 223 = .ok (.iload_n 3, 1)) ∧ (decode code 224 = .ok (.iconst 1, 1)) ∧ (decode code 225 = .ok (.iadd, 1)) ∧ (decode code 226 = .ok (.iaload, 1)) ∧ (decode code 227 = .ok (.aload_n 0, 1)) ∧ (decode code 228 = .ok (.iload_n 3, 1)) ∧ (decode code 229 = .ok (.iconst 2, 1)) ∧ (decode code 230 = .ok (.iadd, 1)) ∧ (decode code 231 = .ok (.iaload, 1)) ∧ (decode code 232 = .ok (.aload_n 0, 1)) ∧ (decode code 233 = .ok (.iload_n 3, 1)) ∧ (decode code 234 = .ok (.iconst 3, 1)) ∧ (decode code 235 = .ok (.iadd, 1)) := by decide +kernel
theorem dL_law_218 : decode code 218 = .ok (.goto 1263, 3) := dLq_218.1
theorem dL_law_221 : decode code 221 = .ok (.aload_n 1, 1) := dLq_218.2.1
theorem dL_law_222 : decode code 222 = .ok (.aload_n 0, 1) := dLq_218.2.2.1
theorem dL_law_223 : decode code 223 = .ok (.iload_n 3, 1) := dLq_218.2.2.2.1
theorem dL_law_224 : decode code 224 = .ok (.iconst 1, 1) := dLq_218.2.2.2.2.1
theorem dL_law_225 : decode code 225 = .ok (.iadd, 1) := dLq_218.2.2.2.2.2.1
theorem dL_law_226 : decode code 226 = .ok (.iaload, 1) := dLq_218.2.2.2.2.2.2.1
theorem dL_law_227 : decode code 227 = .ok (.aload_n 0, 1) := dLq_218.2.2.2.2.2.2.2.1
theorem dL_law_228 : decode code 228 = .ok (.iload_n 3, 1) := dLq_218.2.2.2.2.2.2.2.2.1
theorem dL_law_229 : decode code 229 = .ok (.iconst 2, 1) := dLq_218.2.2.2.2.2.2.2.2.2.1
theorem dL_law_230 : decode code 230 = .ok (.iadd, 1) := dLq_218.2.2.2.2.2.2.2.2.2.2.1
theorem dL_law_231 : decode code 231 = .ok (.iaload, 1) := dLq_218.2.2.2.2.2.2.2.2.2.2.2.1
theorem dL_law_232 : decode code 232 = .ok (.aload_n 0, 1) := dLq_218.2.2.2.2.2.2.2.2.2.2.2.2.1
theorem dL_law_233 : decode code 233 = .ok (.iload_n 3, 1) := dLq_218.2.2.2.2.2.2.2.2.2.2.2.2.2.1
theorem dL_law_234 : decode code 234 = .ok (.iconst 3, 1) := dLq_218.2.2.2.2.2.2.2.2.2.2.2.2.2.2.1
theorem dL_law_235 : decode code 235 = .ok (.iadd, 1) := dLq_218.2.2.2.2.2.2.2.2.2.2.2.2.2.2.2
theorem dLq_236 : (decode code 236 = .ok (.iaload, 1)) ∧ (decode code 237 = .ok (.aload_n 0, 1)) ∧ (decode code 238 = .ok (.iload_n 3, 1)) ∧ (decode code 239 = .ok (.iconst 4, 1)) ∧ (decode code 240 = .ok (.iadd, 1)) ∧ (decode code 241 = .ok (.iaload, 1)) ∧ (decode code 242 = .ok (.invokevirtual 18, 3)) ∧ (decode code 245 = .ok (.pop, 1)) ∧ (decode code 246 = .ok (.aload_n 2, 1)) ∧ (decode code 247 = .ok (.aload_n 0, 1)) ∧ (decode code 248 = .ok (.iload_n 3, 1)) ∧ (decode code 249 = .ok (.iconst 1, 1)) ∧ (decode code 250 = .ok (.iadd, 1)) ∧ (decode code 251 = .ok (.iaload, 1)) ∧ (decode code 252 = .ok (.aload_n 0, 1)) ∧ (decode code 253 = .ok (.iload_n 3, 1)) := by decide +kernel
theorem dL_law_236 : decode code 236 = .ok (.iaload, 1) := dLq_236.1
theorem dL_law_237 : decode code 237 = .ok (.aload_n 0, 1) := dLq_236.2.1
theorem dL_law_238 : decode code 238 = .ok (.iload_n 3, 1) := dLq_236.2.2.1
theorem dL_law_239 : decode code 239 = .ok (.iconst 4, 1) := dLq_236.2.2.2.1
theorem dL_law_240 : decode code 240 = .ok (.iadd, 1) := dLq_236.2.2.2.2.1
theorem dL_law_241 : decode code 241 = .ok (.iaload, 1) := dLq_236.2.2.2.2.2.1
theorem dL_law_242 : decode code 242 = .ok (.invokevirtual 18, 3) := dLq_236.2.2.2.2.2.2.1
theorem dL_law_245 : decode code 245 = .ok (.pop, 1) := dLq_236.2.2.2.2.2.2.2.1
theorem dL_law_246 : decode code 246 = .ok (.aload_n 2, 1) := dLq_236.2.2.2.2.2.2.2.2.1
theorem dL_law_247 : decode code 247 = .ok (.aload_n 0, 1) := dLq_236.2.2.2.2.2.2.2.2.2.1
theorem dL_law_248 : decode code 248 = .ok (.iload_n 3, 1) := dLq_236.2.2.2.2.2.2.2.2.2.2.1
theorem dL_law_249 : decode code 249 = .ok (.iconst 1, 1) := dLq_236.2.2.2.2.2.2.2.2.2.2.2.1
theorem dL_law_250 : decode code 250 = .ok (.iadd, 1) := dLq_236.2.2.2.2.2.2.2.2.2.2.2.2.1
theorem dL_law_251 : decode code 251 = .ok (.iaload, 1) := dLq_236.2.2.2.2.2.2.2.2.2.2.2.2.2.1
theorem dL_law_252 : decode code 252 = .ok (.aload_n 0, 1) := dLq_236.2.2.2.2.2.2.2.2.2.2.2.2.2.2.1
theorem dL_law_253 : decode code 253 = .ok (.iload_n 3, 1) := dLq_236.2.2.2.2.2.2.2.2.2.2.2.2.2.2.2
theorem dLq_254 : (decode code 254 = .ok (.iconst 2, 1)) ∧ (decode code 255 = .ok (.iadd, 1)) ∧ (decode code 256 = .ok (.iaload, 1)) ∧ (decode code 257 = .ok (.aload_n 0, 1)) ∧ (decode code 258 = .ok (.iload_n 3, 1)) ∧ (decode code 259 = .ok (.iconst 3, 1)) ∧ (decode code 260 = .ok (.iadd, 1)) ∧ (decode code 261 = .ok (.iaload, 1)) ∧ (decode code 262 = .ok (.aload_n 0, 1)) ∧ (decode code 263 = .ok (.iload_n 3, 1)) ∧ (decode code 264 = .ok (.iconst 4, 1)) ∧ (decode code 265 = .ok (.iadd, 1)) ∧ (decode code 266 = .ok (.iaload, 1)) ∧ (decode code 267 = .ok (.invokevirtual 22, 3)) ∧ (decode code 270 = .ok (.pop, 1)) ∧ (decode code 271 = .ok (.goto 1210, 3)) := by decide +kernel
theorem dL_law_254 : decode code 254 = .ok (.iconst 2, 1) := dLq_254.1
theorem dL_law_255 : decode code 255 = .ok (.iadd, 1) := dLq_254.2.1
theorem dL_law_256 : decode code 256 = .ok (.iaload, 1) := dLq_254.2.2.1
theorem dL_law_257 : decode code 257 = .ok (.aload_n 0, 1) := dLq_254.2.2.2.1
theorem dL_law_258 : decode code 258 = .ok (.iload_n 3, 1) := dLq_254.2.2.2.2.1
theorem dL_law_259 : decode code 259 = .ok (.iconst 3, 1) := dLq_254.2.2.2.2.2.1
theorem dL_law_260 : decode code 260 = .ok (.iadd, 1) := dLq_254.2.2.2.2.2.2.1
theorem dL_law_261 : decode code 261 = .ok (.iaload, 1) := dLq_254.2.2.2.2.2.2.2.1
theorem dL_law_262 : decode code 262 = .ok (.aload_n 0, 1) := dLq_254.2.2.2.2.2.2.2.2.1
theorem dL_law_263 : decode code 263 = .ok (.iload_n 3, 1) := dLq_254.2.2.2.2.2.2.2.2.2.1
theorem dL_law_264 : decode code 264 = .ok (.iconst 4, 1) := dLq_254.2.2.2.2.2.2.2.2.2.2.1
theorem dL_law_265 : decode code 265 = .ok (.iadd, 1) := dLq_254.2.2.2.2.2.2.2.2.2.2.2.1
theorem dL_law_266 : decode code 266 = .ok (.iaload, 1) := dLq_254.2.2.2.2.2.2.2.2.2.2.2.2.1
theorem dL_law_267 : decode code 267 = .ok (.invokevirtual 22, 3) := dLq_254.2.2.2.2.2.2.2.2.2.2.2.2.2.1
theorem dL_law_270 : decode code 270 = .ok (.pop, 1) := dLq_254.2.2.2.2.2.2.2.2.2.2.2.2.2.2.1
theorem dL_law_271 : decode code 271 = .ok (.goto 1210, 3) := dLq_254.2.2.2.2.2.2.2.2.2.2.2.2.2.2.2
theorem dLq_274 : (decode code 274 = .ok (.aload_n 1, 1)) ∧ (decode code 275 = .ok (.aload_n 0, 1)) ∧ (decode code 276 = .ok (.iload_n 3, 1)) ∧ (decode code 277 = .ok (.iconst 1, 1)) ∧ (decode code 278 = .ok (.iadd, 1)) ∧ (decode code 279 = .ok (.iaload, 1)) ∧ (decode code 280 = .ok (.aload_n 0, 1)) ∧ (decode code 281 = .ok (.iload_n 3, 1)) ∧ (decode code 282 = .ok (.iconst 2, 1)) ∧ (decode code 283 = .ok (.iadd, 1)) ∧ (decode code 284 = .ok (.iaload, 1)) ∧ (decode code 285 = .ok (.invokevirtual 23, 3)) ∧ (decode code 288 = .ok (.pop, 1)) ∧ (decode code 289 = .ok (.aload_n 2, 1)) ∧ (decode code 290 = .ok (.aload_n 0, 1)) ∧ (decode code 291 = .ok (.iload_n 3, 1)) := by decide +kernel
theorem dL_law_274 : decode code 274 = .ok (.aload_n 1, 1) := dLq_274.1
theorem dL_law_275 : decode code 275 = .ok (.aload_n 0, 1) := dLq_274.2.1
theorem dL_law_276 : decode code 276 = .ok (.iload_n 3, 1) := dLq_274.2.2.1
theorem dL_law_277 : decode code 277 = .ok (.iconst 1, 1) := dLq_274.2.2.2.1
theorem dL_law_278 : decode code 278 = .ok (.iadd, 1) := dLq_274.2.2.2.2.1
theorem dL_law_279 : decode code 279 = .ok (.iaload, 1) := dLq_274.2.2.2.2.2.1
theorem dL_law_280 : decode code 280 = .ok (.aload_n 0, 1) := dLq_274.2.2.2.2.2.2.1
theorem dL_law_281 : decode code 281 = .ok (.iload_n 3, 1) := dLq_274.2.2.2.2.2.2.2.1
theorem dL_law_282 : decode code 282 = .ok (.iconst 2, 1) := dLq_274.2.2.2.2.2.2.2.2.1
theorem dL_law_283 : decode code 283 = .ok (.iadd, 1) := dLq_274.2.2.2.2.2.2.2.2.2.1
theorem dL_law_284 : decode code 284 = .ok (.iaload, 1) := dLq_274.2.2.2.2.2.2.2.2.2.2.1
theorem dL_law_285 : decode code 285 = .ok (.invokevirtual 23, 3) := dLq_274.2.2.2.2.2.2.2.2.2.2.2.1
theorem dL_law_288 : decode code 288 = .ok (.pop, 1) := dLq_274.2.2.2.2.2.2.2.2.2.2.2.2.1
theorem dL_law_289 : decode code 289 = .ok (.aload_n 2, 1) := dLq_274.2.2.2.2.2.2.2.2.2.2.2.2.2.1
theorem dL_law_290 : decode code 290 = .ok (.aload_n 0, 1) := dLq_274.2.2.2.2.2.2.2.2.2.2.2.2.2.2.1
theorem dL_law_291 : decode code 291 = .ok (.iload_n 3, 1) := dLq_274.2.2.2.2.2.2.2.2.2.2.2.2.2.2.2
theorem dLq_292 : (decode code 292 = .ok (.iconst 1, 1)) ∧ (decode code 293 = .ok (.iadd, 1)) ∧ (decode code 294 = .ok (.iaload, 1)) ∧ (decode code 295 = .ok (.aload_n 0, 1)) ∧ (decode code 296 = .ok (.iload_n 3, 1)) ∧ (decode code 297 = .ok (.iconst 2, 1)) ∧ (decode code 298 = .ok (.iadd, 1)) ∧ (decode code 299 = .ok (.iaload, 1)) ∧ (decode code 300 = .ok (.invokevirtual 26, 3)) ∧ (decode code 303 = .ok (.pop, 1)) ∧ (decode code 304 = .ok (.goto 1177, 3)) ∧ (decode code 307 = .ok (.aload_n 1, 1)) ∧ (decode code 308 = .ok (.aload_n 0, 1)) ∧ (decode code 309 = .ok (.iload_n 3, 1)) ∧ (decode code 310 = .ok (.iconst 1, 1)) ∧ (decode code 311 = .ok (.iadd, 1)) := by decide +kernel
theorem dL_law_292 : decode code 292 = .ok (.iconst 1, 1) := dLq_292.1
theorem dL_law_293 : decode code 293 = .ok (.iadd, 1) := dLq_292.2.1
theorem dL_law_294 : decode code 294 = .ok (.iaload, 1) := dLq_292.2.2.1
theorem dL_law_295 : decode code 295 = .ok (.aload_n 0, 1) := dLq_292.2.2.2.1
theorem dL_law_296 : decode code 296 = .ok (.iload_n 3, 1) := dLq_292.2.2.2.2.1
theorem dL_law_297 : decode code 297 = .ok (.iconst 2, 1) := dLq_292.2.2.2.2.2.1
theorem dL_law_298 : decode code 298 = .ok (.iadd, 1) := dLq_292.2.2.2.2.2.2.1
theorem dL_law_299 : decode code 299 = .ok (.iaload, 1) := dLq_292.2.2.2.2.2.2.2.1
theorem dL_law_300 : decode code 300 = .ok (.invokevirtual 26, 3) := dLq_292.2.2.2.2.2.2.2.2.1
theorem dL_law_303 : decode code 303 = .ok (.pop, 1) := dLq_292.2.2.2.2.2.2.2.2.2.1
theorem dL_law_304 : decode code 304 = .ok (.goto 1177, 3) := dLq_292.2.2.2.2.2.2.2.2.2.2.1
theorem dL_law_307 : decode code 307 = .ok (.aload_n 1, 1) := dLq_292.2.2.2.2.2.2.2.2.2.2.2.1
theorem dL_law_308 : decode code 308 = .ok (.aload_n 0, 1) := dLq_292.2.2.2.2.2.2.2.2.2.2.2.2.1
theorem dL_law_309 : decode code 309 = .ok (.iload_n 3, 1) := dLq_292.2.2.2.2.2.2.2.2.2.2.2.2.2.1
theorem dL_law_310 : decode code 310 = .ok (.iconst 1, 1) := dLq_292.2.2.2.2.2.2.2.2.2.2.2.2.2.2.1
theorem dL_law_311 : decode code 311 = .ok (.iadd, 1) := dLq_292.2.2.2.2.2.2.2.2.2.2.2.2.2.2.2
theorem dLq_312 : (decode code 312 = .ok (.iaload, 1)) ∧ (decode code 313 = .ok (.aload_n 0, 1)) ∧ (decode code 314 = .ok (.iload_n 3, 1)) ∧ (decode code 315 = .ok (.iconst 2, 1)) ∧ (decode code 316 = .ok (.iadd, 1)) ∧ (decode code 317 = .ok (.iaload, 1)) ∧ (decode code 318 = .ok (.aload_n 0, 1)) ∧ (decode code 319 = .ok (.iload_n 3, 1)) ∧ (decode code 320 = .ok (.iconst 3, 1)) ∧ (decode code 321 = .ok (.iadd, 1)) ∧ (decode code 322 = .ok (.iaload, 1)) ∧ (decode code 323 = .ok (.aload_n 0, 1)) ∧ (decode code 324 = .ok (.iload_n 3, 1)) ∧ (decode code 325 = .ok (.iconst 4, 1)) ∧ (decode code 326 = .ok (.iadd, 1)) ∧ (decode code 327 = .ok (.iaload, 1)) := by decide +kernel
theorem dL_law_312 : decode code 312 = .ok (.iaload, 1) := dLq_312.1
theorem dL_law_313 : decode code 313 = .ok (.aload_n 0, 1) := dLq_312.2.1
theorem dL_law_314 : decode code 314 = .ok (.iload_n 3, 1) := dLq_312.2.2.1
theorem dL_law_315 : decode code 315 = .ok (.iconst 2, 1) := dLq_312.2.2.2.1
theorem dL_law_316 : decode code 316 = .ok (.iadd, 1) := dLq_312.2.2.2.2.1
theorem dL_law_317 : decode code 317 = .ok (.iaload, 1) := dLq_312.2.2.2.2.2.1
theorem dL_law_318 : decode code 318 = .ok (.aload_n 0, 1) := dLq_312.2.2.2.2.2.2.1
theorem dL_law_319 : decode code 319 = .ok (.iload_n 3, 1) := dLq_312.2.2.2.2.2.2.2.1
theorem dL_law_320 : decode code 320 = .ok (.iconst 3, 1) := dLq_312.2.2.2.2.2.2.2.2.1
theorem dL_law_321 : decode code 321 = .ok (.iadd, 1) := dLq_312.2.2.2.2.2.2.2.2.2.1
theorem dL_law_322 : decode code 322 = .ok (.iaload, 1) := dLq_312.2.2.2.2.2.2.2.2.2.2.1
theorem dL_law_323 : decode code 323 = .ok (.aload_n 0, 1) := dLq_312.2.2.2.2.2.2.2.2.2.2.2.1
theorem dL_law_324 : decode code 324 = .ok (.iload_n 3, 1) := dLq_312.2.2.2.2.2.2.2.2.2.2.2.2.1
theorem dL_law_325 : decode code 325 = .ok (.iconst 4, 1) := dLq_312.2.2.2.2.2.2.2.2.2.2.2.2.2.1
theorem dL_law_326 : decode code 326 = .ok (.iadd, 1) := dLq_312.2.2.2.2.2.2.2.2.2.2.2.2.2.2.1
theorem dL_law_327 : decode code 327 = .ok (.iaload, 1) := dLq_312.2.2.2.2.2.2.2.2.2.2.2.2.2.2.2
theorem dLq_328 : (decode code 328 = .ok (.aload_n 0, 1)) ∧ (decode code 329 = .ok (.iload_n 3, 1)) ∧ (decode code 330 = .ok (.iconst 5, 1)) ∧ (decode code 331 = .ok (.iadd, 1)) ∧ (decode code 332 = .ok (.iaload, 1)) ∧ (decode code 333 = .ok (.invokevirtual 27, 3)) ∧ (decode code 336 = .ok (.pop, 1)) ∧ (decode code 337 = .ok (.aload_n 2, 1)) ∧ (decode code 338 = .ok (.aload_n 0, 1)) ∧ (decode code 339 = .ok (.iload_n 3, 1)) ∧ (decode code 340 = .ok (.iconst 1, 1)) ∧ (decode code 341 = .ok (.iadd, 1)) ∧ (decode code 342 = .ok (.iaload, 1)) ∧ (decode code 343 = .ok (.aload_n 0, 1)) ∧ (decode code 344 = .ok (.iload_n 3, 1)) ∧ (decode code 345 = .ok (.iconst 2, 1)) := by decide +kernel
theorem dL_law_328 : decode code 328 = .ok (.aload_n 0, 1) := dLq_328.1
theorem dL_law_329 : decode code 329 = .ok (.iload_n 3, 1) := dLq_328.2.1
theorem dL_law_330 : decode code 330 = .ok (.iconst 5, 1) := dLq_328.2.2.1
theorem dL_law_331 : decode code 331 = .ok (.iadd, 1) := dLq_328.2.2.2.1
theorem dL_law_332 : decode code 332 = .ok (.iaload, 1) := dLq_328.2.2.2.2.1
theorem dL_law_333 : decode code 333 = .ok (.invokevirtual 27, 3) := dLq_328.2.2.2.2.2.1
theorem dL_law_336 : decode code 336 = .ok (.pop, 1) := dLq_328.2.2.2.2.2.2.1
theorem dL_law_337 : decode code 337 = .ok (.aload_n 2, 1) := dLq_328.2.2.2.2.2.2.2.1
theorem dL_law_338 : decode code 338 = .ok (.aload_n 0, 1) := dLq_328.2.2.2.2.2.2.2.2.1
theorem dL_law_339 : decode code 339 = .ok (.iload_n 3, 1) := dLq_328.2.2.2.2.2.2.2.2.2.1
theorem dL_law_340 : decode code 340 = .ok (.iconst 1, 1) := dLq_328.2.2.2.2.2.2.2.2.2.2.1
theorem dL_law_341 : decode code 341 = .ok (.iadd, 1) := dLq_328.2.2.2.2.2.2.2.2.2.2.2.1
theorem dL_law_342 : decode code 342 = .ok (.iaload, 1) := dLq_328.2.2.2.2.2.2.2.2.2.2.2.2.1
theorem dL_law_343 : decode code 343 = .ok (.aload_n 0, 1) := dLq_328.2.2.2.2.2.2.2.2.2.2.2.2.2.1
theorem dL_law_344 : decode code 344 = .ok (.iload_n 3, 1) := dLq_328.2.2.2.2.2.2.2.2.2.2.2.2.2.2.1
theorem dL_law_345 : decode code 345 = .ok (.iconst 2, 1) := dLq_328.2.2.2.2.2.2.2.2.2.2.2.2.2.2.2
theorem dLq_346 : (decode code 346 = .ok (.iadd, 1)) ∧ (decode code 347 = .ok (.iaload, 1)) ∧ (decode code 348 = .ok (.aload_n 0, 1)) ∧ (decode code 349 = .ok (.iload_n 3, 1)) ∧ (decode code 350 = .ok (.iconst 3, 1)) ∧ (decode code 351 = .ok (.iadd, 1)) ∧ (decode code 352 = .ok (.iaload, 1)) ∧ (decode code 353 = .ok (.aload_n 0, 1)) ∧ (decode code 354 = .ok (.iload_n 3, 1)) ∧ (decode code 355 = .ok (.iconst 4, 1)) ∧ (decode code 356 = .ok (.iadd, 1)) ∧ (decode code 357 = .ok (.iaload, 1)) ∧ (decode code 358 = .ok (.aload_n 0, 1)) ∧ (decode code 359 = .ok (.iload_n 3, 1)) ∧ (decode code 360 = .ok (.iconst 5, 1)) ∧ (decode code 361 = .ok (.iadd, 1)) := by decide +kernel
theorem dL_law_346 : decode code 346 = .ok (.iadd, 1) := dLq_346.1
theorem dL_law_347 : decode code 347 = .ok (.iaload, 1) := dLq_346.2.1
theorem dL_law_348 : decode code 348 = .ok (.aload_n 0, 1) := dLq_346.2.2.1
theorem dL_law_349 : decode code 349 = .ok (.iload_n 3, 1) := dLq_346.2.2.2.1
theorem dL_law_350 : decode code 350 = .ok (.iconst 3, 1) := dLq_346.2.2.2.2.1
theorem dL_law_351 : decode code 351 = .ok (.iadd, 1) := dLq_346.2.2.2.2.2.1
theorem dL_law_352 : decode code 352 = .ok (.iaload, 1) := dLq_346.2.2.2.2.2.2.1
theorem dL_law_353 : decode code 353 = .ok (.aload_n 0, 1) := dLq_346.2.2.2.2.2.2.2.1
theorem dL_law_354 : decode code 354 = .ok (.iload_n 3, 1) := dLq_346.2.2.2.2.2.2.2.2.1
theorem dL_law_355 : decode code 355 = .ok (.iconst 4, 1) := dLq_346.2.2.2.2.2.2.2.2.2.1
theorem dL_law_356 : decode code 356 = .ok (.iadd, 1) := dLq_346.2.2.2.2.2.2.2.2.2.2.1
theorem dL_law_357 : decode code 357 = .ok (.iaload, 1) := dLq_346.2.2.2.2.2.2.2.2.2.2.2.1
theorem dL_law_358 : decode code 358 = .ok (.aload_n 0, 1) := dLq_346.2.2.2.2.2.2.2.2.2.2.2.2.1
theorem dL_law_359 : decode code 359 = .ok (.iload_n 3, 1) := dLq_346.2.2.2.2.2.2.2.2.2.2.2.2.2.1
theorem dL_law_360 : decode code 360 = .ok (.iconst 5, 1) := dLq_346.2.2.2.2.2.2.2.2.2.2.2.2.2.2.1
theorem dL_law_361 : decode code 361 = .ok (.iadd, 1) := dLq_346.2.2.2.2.2.2.2.2.2.2.2.2.2.2.2
theorem dLq_362 : (decode code 362 = .ok (.iaload, 1)) ∧ (decode code 363 = .ok (.invokevirtual 31, 3)) ∧ (decode code 366 = .ok (.pop, 1)) ∧ (decode code 367 = .ok (.goto 1114, 3)) ∧ (decode code 370 = .ok (.aload_n 1, 1)) ∧ (decode code 371 = .ok (.aload_n 0, 1)) ∧ (decode code 372 = .ok (.iload_n 3, 1)) ∧ (decode code 373 = .ok (.iconst 1, 1)) ∧ (decode code 374 = .ok (.iadd, 1)) ∧ (decode code 375 = .ok (.iaload, 1)) ∧ (decode code 376 = .ok (.aload_n 0, 1)) ∧ (decode code 377 = .ok (.iload_n 3, 1)) ∧ (decode code 378 = .ok (.iconst 2, 1)) ∧ (decode code 379 = .ok (.iadd, 1)) ∧ (decode code 380 = .ok (.iaload, 1)) ∧ (decode code 381 = .ok (.aload_n 0, 1)) := by decide +kernel
theorem dL_law_362 : decode code 362 = .ok (.iaload, 1) := dLq_362.1
theorem dL_law_363 : decode code 363 = .ok (.invokevirtual 31, 3) := dLq_362.2.1
theorem dL_law_366 : decode code 366 = .ok (.pop, 1) := dLq_362.2.2.1
theorem dL_law_367 : decode code 367 = .ok (.goto 1114, 3) := dLq_362.2.2.2.1
theorem dL_law_370 : decode code 370 = .ok (.aload_n 1, 1) := dLq_362.2.2.2.2.1
theorem dL_law_371 : decode code 371 = .ok (.aload_n 0, 1) := dLq_362.2.2.2.2.2.1
theorem dL_law_372 : decode code 372 = .ok (.iload_n 3, 1) := dLq_362.2.2.2.2.2.2.1
theorem dL_law_373 : decode code 373 = .ok (.iconst 1, 1) := dLq_362.2.2.2.2.2.2.2.1
theorem dL_law_374 : decode code 374 = .ok (.iadd, 1) := dLq_362.2.2.2.2.2.2.2.2.1
theorem dL_law_375 : decode code 375 = .ok (.iaload, 1) := dLq_362.2.2.2.2.2.2.2.2.2.1
theorem dL_law_376 : decode code 376 = .ok (.aload_n 0, 1) := dLq_362.2.2.2.2.2.2.2.2.2.2.1
theorem dL_law_377 : decode code 377 = .ok (.iload_n 3, 1) := dLq_362.2.2.2.2.2.2.2.2.2.2.2.1
theorem dL_law_378 : decode code 378 = .ok (.iconst 2, 1) := dLq_362.2.2.2.2.2.2.2.2.2.2.2.2.1
theorem dL_law_379 : decode code 379 = .ok (.iadd, 1) := dLq_362.2.2.2.2.2.2.2.2.2.2.2.2.2.1
theorem dL_law_380 : decode code 380 = .ok (.iaload, 1) := dLq_362.2.2.2.2.2.2.2.2.2.2.2.2.2.2.1
theorem dL_law_381 : decode code 381 = .ok (.aload_n 0, 1) := dLq_362.2.2.2.2.2.2.2.2.2.2.2.2.2.2.2
theorem dLq_382 : (decode code 382 = .ok (.iload_n 3, 1)) ∧ (decode code 383 = .ok (.iconst 3, 1)) ∧ (decode code 384 = .ok (.iadd, 1)) ∧ (decode code 385 = .ok (.iaload, 1)) ∧ (decode code 386 = .ok (.aload_n 0, 1)) ∧ (decode code 387 = .ok (.iload_n 3, 1)) ∧ (decode code 388 = .ok (.iconst 4, 1)) ∧ (decode code 389 = .ok (.iadd, 1)) ∧ (decode code 390 = .ok (.iaload, 1)) ∧ (decode code 391 = .ok (.aload_n 0, 1)) ∧ (decode code 392 = .ok (.iload_n 3, 1)) ∧ (decode code 393 = .ok (.iconst 5, 1)) ∧ (decode code 394 = .ok (.iadd, 1)) ∧ (decode code 395 = .ok (.iaload, 1)) ∧ (decode code 396 = .ok (.invokevirtual 32, 3)) ∧ (decode code 399 = .ok (.pop, 1)) := by decide +kernel
theorem dL_law_382 : decode code 382 = .ok (.iload_n 3, 1) := dLq_382.1
theorem dL_law_383 : decode code 383 = .ok (.iconst 3, 1) := dLq_382.2.1
theorem dL_law_384 : decode code 384 = .ok (.iadd, 1) := dLq_382.2.2.1
theorem dL_law_385 : decode code 385 = .ok (.iaload, 1) := dLq_382.2.2.2.1
theorem dL_law_386 : decode code 386 = .ok (.aload_n 0, 1) := dLq_382.2.2.2.2.1
theorem dL_law_387 : decode code 387 = .ok (.iload_n 3, 1) := dLq_382.2.2.2.2.2.1
theorem dL_law_388 : decode code 388 = .ok (.iconst 4, 1) := dLq_382.2.2.2.2.2.2.1
theorem dL_law_389 : decode code 389 = .ok (.iadd, 1) := dLq_382.2.2.2.2.2.2.2.1
theorem dL_law_390 : decode code 390 = .ok (.iaload, 1) := dLq_382.2.2.2.2.2.2.2.2.1
theorem dL_law_391 : decode code 391 = .ok (.aload_n 0, 1) := dLq_382.2.2.2.2.2.2.2.2.2.1
theorem dL_law_392 : decode code 392 = .ok (.iload_n 3, 1) := dLq_382.2.2.2.2.2.2.2.2.2.2.1
theorem dL_law_393 : decode code 393 = .ok (.iconst 5, 1) := dLq_382.2.2.2.2.2.2.2.2.2.2.2.1
theorem dL_law_394 : decode code 394 = .ok (.iadd, 1) := dLq_382.2.2.2.2.2.2.2.2.2.2.2.2.1
theorem dL_law_395 : decode code 395 = .ok (.iaload, 1) := dLq_382.2.2.2.2.2.2.2.2.2.2.2.2.2.1
theorem dL_law_396 : decode code 396 = .ok (.invokevirtual 32, 3) := dLq_382.2.2.2.2.2.2.2.2.2.2.2.2.2.2.1
theorem dL_law_399 : decode code 399 = .ok (.pop, 1) := dLq_382.2.2.2.2.2.2.2.2.2.2.2.2.2.2.2
theorem dLq_400 : (decode code 400 = .ok (.aload_n 2, 1)) ∧ (decode code 401 = .ok (.aload_n 0, 1)) ∧ (decode code 402 = .ok (.iload_n 3, 1)) ∧ (decode code 403 = .ok (.iconst 1, 1)) ∧ (decode code 404 = .ok (.iadd, 1)) ∧ (decode code 405 = .ok (.iaload, 1)) ∧ (decode code 406 = .ok (.aload_n 0, 1)) ∧ (decode code 407 = .ok (.iload_n 3, 1)) ∧ (decode code 408 = .ok (.iconst 2, 1)) ∧ (decode code 409 = .ok (.iadd, 1)) ∧ (decode code 410 = .ok (.iaload, 1)) ∧ (decode code 411 = .ok (.aload_n 0, 1)) ∧ (decode code 412 = .ok (.iload_n 3, 1)) ∧ (decode code 413 = .ok (.iconst 3, 1)) ∧ (decode code 414 = .ok (.iadd, 1)) ∧ (decode code 415 = .ok (.iaload, 1)) := by decide +kernel
theorem dL_law_400 : decode code 400 = .ok (.aload_n 2, 1) := dLq_400.1
theorem dL_law_401 : decode code 401 = .ok (.aload_n 0, 1) := dLq_400.2.1
theorem dL_law_402 : decode code 402 = .ok (.iload_n 3, 1) := dLq_400.2.2.1
theorem dL_law_403 : decode code 403 = .ok (.iconst 1, 1) := dLq_400.2.2.2.1
theorem dL_law_404 : decode code 404 = .ok (.iadd, 1) := dLq_400.2.2.2.2.1
theorem dL_law_405 : decode code 405 = .ok (.iaload, 1) := dLq_400.2.2.2.2.2.1
theorem dL_law_406 : decode code 406 = .ok (.aload_n 0, 1) := dLq_400.2.2.2.2.2.2.1
theorem dL_law_407 : decode code 407 = .ok (.iload_n 3, 1) := dLq_400.2.2.2.2.2.2.2.1
theorem dL_law_408 : decode code 408 = .ok (.iconst 2, 1) := dLq_400.2.2.2.2.2.2.2.2.1
theorem dL_law_409 : decode code 409 = .ok (.iadd, 1) := dLq_400.2.2.2.2.2.2.2.2.2.1
theorem dL_law_410 : decode code 410 = .ok (.iaload, 1) := dLq_400.2.2.2.2.2.2.2.2.2.2.1
theorem dL_law_411 : decode code 411 = .ok (.aload_n 0, 1) := dLq_400.2.2.2.2.2.2.2.2.2.2.2.1
theorem dL_law_412 : decode code 412 = .ok (.iload_n 3, 1) := dLq_400.2.2.2.2.2.2.2.2.2.2.2.2.1
theorem dL_law_413 : decode code 413 = .ok (.iconst 3, 1) := dLq_400.2.2.2.2.2.2.2.2.2.2.2.2.2.1
theorem dL_law_414 : decode code 414 = .ok (.iadd, 1) := dLq_400.2.2.2.2.2.2.2.2.2.2.2.2.2.2.1
theorem dL_law_415 : decode code 415 = .ok (.iaload, 1) := dLq_400.2.2.2.2.2.2.2.2.2.2.2.2.2.2.2
theorem dLq_416 : (decode code 416 = .ok (.aload_n 0, 1)) ∧ (decode code 417 = .ok (.iload_n 3, 1)) ∧ (decode code 418 = .ok (.iconst 4, 1)) ∧ (decode code 419 = .ok (.iadd, 1)) ∧ (decode code 420 = .ok (.iaload, 1)) ∧ (decode code 421 = .ok (.aload_n 0, 1)) ∧ (decode code 422 = .ok (.iload_n 3, 1)) ∧ (decode code 423 = .ok (.iconst 5, 1)) ∧ (decode code 424 = .ok (.iadd, 1)) ∧ (decode code 425 = .ok (.iaload, 1)) ∧ (decode code 426 = .ok (.invokevirtual 35, 3)) ∧ (decode code 429 = .ok (.pop, 1)) ∧ (decode code 430 = .ok (.goto 1051, 3)) ∧ (decode code 433 = .ok (.aload_n 1, 1)) ∧ (decode code 434 = .ok (.aload_n 0, 1)) ∧ (decode code 435 = .ok (.iload_n 3, 1)) := by decide +kernel
theorem dL_law_416 : decode code 416 = .ok (.aload_n 0, 1) := dLq_416.1
theorem dL_law_417 : decode code 417 = .ok (.iload_n 3, 1) := dLq_416.2.1
theorem dL_law_418 : decode code 418 = .ok (.iconst 4, 1) := dLq_416.2.2.1
theorem dL_law_419 : decode code 419 = .ok (.iadd, 1) := dLq_416.2.2.2.1
theorem dL_law_420 : decode code 420 = .ok (.iaload, 1) := dLq_416.2.2.2.2.1
theorem dL_law_421 : decode code 421 = .ok (.aload_n 0, 1) := dLq_416.2.2.2.2.2.1
theorem dL_law_422 : decode code 422 = .ok (.iload_n 3, 1) := dLq_416.2.2.2.2.2.2.1
theorem dL_law_423 : decode code 423 = .ok (.iconst 5, 1) := dLq_416.2.2.2.2.2.2.2.1
theorem dL_law_424 : decode code 424 = .ok (.iadd, 1) := dLq_416.2.2.2.2.2.2.2.2.1
theorem dL_law_425 : decode code 425 = .ok (.iaload, 1) := dLq_416.2.2.2.2.2.2.2.2.2.1
theorem dL_law_426 : decode code 426 = .ok (.invokevirtual 35, 3) := dLq_416.2.2.2.2.2.2.2.2.2.2.1
theorem dL_law_429 : decode code 429 = .ok (.pop, 1) := dLq_416.2.2.2.2.2.2.2.2.2.2.2.1
theorem dL_law_430 : decode code 430 = .ok (.goto 1051, 3) := dLq_416.2.2.2.2.2.2.2.2.2.2.2.2.1
theorem dL_law_433 : decode code 433 = .ok (.aload_n 1, 1) := dLq_416.2.2.2.2.2.2.2.2.2.2.2.2.2.1
theorem dL_law_434 : decode code 434 = .ok (.aload_n 0, 1) := dLq_416.2.2.2.2.2.2.2.2.2.2.2.2.2.2.1
theorem dL_law_435 : decode code 435 = .ok (.iload_n 3, 1) := dLq_416.2.2.2.2.2.2.2.2.2.2.2.2.2.2.2
theorem dLq_436 : (decode code 436 = .ok (.iconst 1, 1)) ∧ (decode code 437 = .ok (.iadd, 1)) ∧ (decode code 438 = .ok (.iaload, 1)) ∧ (decode code 439 = .ok (.aload_n 0, 1)) ∧ (decode code 440 = .ok (.iload_n 3, 1)) ∧ (decode code 441 = .ok (.iconst 2, 1)) ∧ (decode code 442 = .ok (.iadd, 1)) ∧ (decode code 443 = .ok (.iaload, 1)) ∧ (decode code 444 = .ok (.invokevirtual 36, 3)) ∧ (decode code 447 = .ok (.pop, 1)) ∧ (decode code 448 = .ok (.aload_n 2, 1)) ∧ (decode code 449 = .ok (.aload_n 0, 1)) ∧ (decode code 450 = .ok (.iload_n 3, 1)) ∧ (decode code 451 = .ok (.iconst 1, 1)) ∧ (decode code 452 = .ok (.iadd, 1)) ∧ (decode code 453 = .ok (.iaload, 1)) := by decide +kernel
theorem dL_law_436 : decode code 436 = .ok (.iconst 1, 1) := dLq_436.1
theorem dL_law_437 : decode code 437 = .ok (.iadd, 1) := dLq_436.2.1
theorem dL_law_438 : decode code 438 = .ok (.iaload, 1) := dLq_436.2.2.1
theorem dL_law_439 : decode code 439 = .ok (.aload_n 0, 1) := dLq_436.2.2.2.1
theorem dL_law_440 : decode code 440 = .ok (.iload_n 3, 1) := dLq_436.2.2.2.2.1
theorem dL_law_441 : decode code 441 = .ok (.iconst 2, 1) := dLq_436.2.2.2.2.2.1
theorem dL_law_442 : decode code 442 = .ok (.iadd, 1) := dLq_436.2.2.2.2.2.2.1
theorem dL_law_443 : decode code 443 = .ok (.iaload, 1) := dLq_436.2.2.2.2.2.2.2.1
theorem dL_law_444 : decode code 444 = .ok (.invokevirtual 36, 3) := dLq_436.2.2.2.2.2.2.2.2.1
theorem dL_law_447 : decode code 447 = .ok (.pop, 1) := dLq_436.2.2.2.2.2.2.2.2.2.1
theorem dL_law_448 : decode code 448 = .ok (.aload_n 2, 1) := dLq_436.2.2.2.2.2.2.2.2.2.2.1
theorem dL_law_449 : decode code 449 = .ok (.aload_n 0, 1) := dLq_436.2.2.2.2.2.2.2.2.2.2.2.1
theorem dL_law_450 : decode code 450 = .ok (.iload_n 3, 1) := dLq_436.2.2.2.2.2.2.2.2.2.2.2.2.1
theorem dL_law_451 : decode code 451 = .ok (.iconst 1, 1) := dLq_436.2.2.2.2.2.2.2.2.2.2.2.2.2.1
theorem dL_law_452 : decode code 452 = .ok (.iadd, 1) := dLq_436.2.2.2.2.2.2.2.2.2.2.2.2.2.2.1
theorem dL_law_453 : decode code 453 = .ok (.iaload, 1) := dLq_436.2.2.2.2.2.2.2.2.2.2.2.2.2.2.2
theorem dLq_454 : (decode code 454 = .ok (.aload_n 0, 1)) ∧ (decode code 455 = .ok (.iload_n 3, 1)) ∧ (decode code 456 = .ok (.iconst 2, 1)) ∧ (decode code 457 = .ok (.iadd, 1)) ∧ (decode code 458 = .ok (.iaload, 1)) ∧ (decode code 459 = .ok (.invokevirtual 39, 3)) ∧ (decode code 462 = .ok (.pop, 1)) ∧ (decode code 463 = .ok (.goto 1018, 3)) ∧ (decode code 466 = .ok (.aload_n 1, 1)) ∧ (decode code 467 = .ok (.aload_n 0, 1)) ∧ (decode code 468 = .ok (.iload_n 3, 1)) ∧ (decode code 469 = .ok (.iconst 1, 1)) ∧ (decode code 470 = .ok (.iadd, 1)) ∧ (decode code 471 = .ok (.iaload, 1)) ∧ (decode code 472 = .ok (.aload_n 0, 1)) ∧ (decode code 473 = .ok (.iload_n 3, 1)) := by decide +kernel
theorem dL_law_454 : decode code 454 = .ok (.aload_n 0, 1) := dLq_454.1
theorem dL_law_455 : decode code 455 = .ok (.iload_n 3, 1) := dLq_454.2.1
theorem dL_law_456 : decode code 456 = .ok (.iconst 2, 1) := dLq_454.2.2.1
theorem dL_law_457 : decode code 457 = .ok (.iadd, 1) := dLq_454.2.2.2.1
theorem dL_law_458 : decode code 458 = .ok (.iaload, 1) := dLq_454.2.2.2.2.1
theorem dL_law_459 : decode code 459 = .ok (.invokevirtual 39, 3) := dLq_454.2.2.2.2.2.1
theorem dL_law_462 : decode code 462 = .ok (.pop, 1) := dLq_454.2.2.2.2.2.2.1
theorem dL_law_463 : decode code 463 = .ok (.goto 1018, 3) := dLq_454.2.2.2.2.2.2.2.1
theorem dL_law_466 : decode code 466 = .ok (.aload_n 1, 1) := dLq_454.2.2.2.2.2.2.2.2.1
theorem dL_law_467 : decode code 467 = .ok (.aload_n 0, 1) := dLq_454.2.2.2.2.2.2.2.2.2.1
theorem dL_law_468 : decode code 468 = .ok (.iload_n 3, 1) := dLq_454.2.2.2.2.2.2.2.2.2.2.1
theorem dL_law_469 : decode code 469 = .ok (.iconst 1, 1) := dLq_454.2.2.2.2.2.2.2.2.2.2.2.1
theorem dL_law_470 : decode code 470 = .ok (.iadd, 1) := dLq_454.2.2.2.2.2.2.2.2.2.2.2.2.1
theorem dL_law_471 : decode code 471 = .ok (.iaload, 1) := dLq_454.2.2.2.2.2.2.2.2.2.2.2.2.2.1
theorem dL_law_472 : decode code 472 = .ok (.aload_n 0, 1) := dLq_454.2.2.2.2.2.2.2.2.2.2.2.2.2.2.1
theorem dL_law_473 : decode code 473 = .ok (.iload_n 3, 1) := dLq_454.2.2.2.2.2.2.2.2.2.2.2.2.2.2.2
theorem dLq_474 : (decode code 474 = .ok (.iconst 2, 1)) ∧ (decode code 475 = .ok (.iadd, 1)) ∧ (decode code 476 = .ok (.iaload, 1)) ∧ (decode code 477 = .ok (.aload_n 0, 1)) ∧ (decode code 478 = .ok (.iload_n 3, 1)) ∧ (decode code 479 = .ok (.iconst 3, 1)) ∧ (decode code 480 = .ok (.iadd, 1)) ∧ (decode code 481 = .ok (.iaload, 1)) ∧ (decode code 482 = .ok (.aload_n 0, 1)) ∧ (decode code 483 = .ok (.iload_n 3, 1)) ∧ (decode code 484 = .ok (.iconst 4, 1)) ∧ (decode code 485 = .ok (.iadd, 1)) ∧ (decode code 486 = .ok (.iaload, 1)) ∧ (decode code 487 = .ok (.invokevirtual 40, 3)) ∧ (decode code 490 = .ok (.pop, 1)) ∧ (decode code 491 = .ok (.aload_n 2, 1)) := by decide +kernel
theorem dL_law_474 : decode code 474 = .ok (.iconst 2, 1) := dLq_474.1
theorem dL_law_475 : decode code 475 = .ok (.iadd, 1) := dLq_474.2.1
theorem dL_law_476 : decode code 476 = .ok (.iaload, 1) := dLq_474.2.2.1
theorem dL_law_477 : decode code 477 = .ok (.aload_n 0, 1) := dLq_474.2.2.2.1
theorem dL_law_478 : decode code 478 = .ok (.iload_n 3, 1) := dLq_474.2.2.2.2.1
theorem dL_law_479 : decode code 479 = .ok (.iconst 3, 1) := dLq_474.2.2.2.2.2.1
theorem dL_law_480 : decode code 480 = .ok (.iadd, 1) := dLq_474.2.2.2.2.2.2.1
theorem dL_law_481 : decode code 481 = .ok (.iaload, 1) := dLq_474.2.2.2.2.2.2.2.1
theorem dL_law_482 : decode code 482 = .ok (.aload_n 0, 1) := dLq_474.2.2.2.2.2.2.2.2.1
theorem dL_law_483 : decode code 483 = .ok (.iload_n 3, 1) := dLq_474.2.2.2.2.2.2.2.2.2.1
theorem dL_law_484 : decode code 484 = .ok (.iconst 4, 1) := dLq_474.2.2.2.2.2.2.2.2.2.2.1
theorem dL_law_485 : decode code 485 = .ok (.iadd, 1) := dLq_474.2.2.2.2.2.2.2.2.2.2.2.1
theorem dL_law_486 : decode code 486 = .ok (.iaload, 1) := dLq_474.2.2.2.2.2.2.2.2.2.2.2.2.1
theorem dL_law_487 : decode code 487 = .ok (.invokevirtual 40, 3) := dLq_474.2.2.2.2.2.2.2.2.2.2.2.2.2.1
theorem dL_law_490 : decode code 490 = .ok (.pop, 1) := dLq_474.2.2.2.2.2.2.2.2.2.2.2.2.2.2.1
theorem dL_law_491 : decode code 491 = .ok (.aload_n 2, 1) := dLq_474.2.2.2.2.2.2.2.2.2.2.2.2.2.2.2
theorem dLq_492 : (decode code 492 = .ok (.aload_n 0, 1)) ∧ (decode code 493 = .ok (.iload_n 3, 1)) ∧ (decode code 494 = .ok (.iconst 1, 1)) ∧ (decode code 495 = .ok (.iadd, 1)) ∧ (decode code 496 = .ok (.iaload, 1)) ∧ (decode code 497 = .ok (.aload_n 0, 1)) ∧ (decode code 498 = .ok (.iload_n 3, 1)) ∧ (decode code 499 = .ok (.iconst 2, 1)) ∧ (decode code 500 = .ok (.iadd, 1)) ∧ (decode code 501 = .ok (.iaload, 1)) ∧ (decode code 502 = .ok (.aload_n 0, 1)) ∧ (decode code 503 = .ok (.iload_n 3, 1)) ∧ (decode code 504 = .ok (.iconst 3, 1)) ∧ (decode code 505 = .ok (.iadd, 1)) ∧ (decode code 506 = .ok (.iaload, 1)) ∧ (decode code 507 = .ok (.aload_n 0, 1)) := by decide +kernel
theorem dL_law_492 : decode code 492 = .ok (.aload_n 0, 1) := dLq_492.1
theorem dL_law_493 : decode code 493 = .ok (.iload_n 3, 1) := dLq_492.2.1
theorem dL_law_494 : decode code 494 = .ok (.iconst 1, 1) := dLq_492.2.2.1
theorem dL_law_495 : decode code 495 = .ok (.iadd, 1) := dLq_492.2.2.2.1
theorem dL_law_496 : decode code 496 = .ok (.iaload, 1) := dLq_492.2.2.2.2.1
theorem dL_law_497 : decode code 497 = .ok (.aload_n 0, 1) := dLq_492.2.2.2.2.2.1
theorem dL_law_498 : decode code 498 = .ok (.iload_n 3, 1) := dLq_492.2.2.2.2.2.2.1
theorem dL_law_499 : decode code 499 = .ok (.iconst 2, 1) := dLq_492.2.2.2.2.2.2.2.1
theorem dL_law_500 : decode code 500 = .ok (.iadd, 1) := dLq_492.2.2.2.2.2.2.2.2.1
theorem dL_law_501 : decode code 501 = .ok (.iaload, 1) := dLq_492.2.2.2.2.2.2.2.2.2.1
theorem dL_law_502 : decode code 502 = .ok (.aload_n 0, 1) := dLq_492.2.2.2.2.2.2.2.2.2.2.1
theorem dL_law_503 : decode code 503 = .ok (.iload_n 3, 1) := dLq_492.2.2.2.2.2.2.2.2.2.2.2.1
theorem dL_law_504 : decode code 504 = .ok (.iconst 3, 1) := dLq_492.2.2.2.2.2.2.2.2.2.2.2.2.1
theorem dL_law_505 : decode code 505 = .ok (.iadd, 1) := dLq_492.2.2.2.2.2.2.2.2.2.2.2.2.2.1
theorem dL_law_506 : decode code 506 = .ok (.iaload, 1) := dLq_492.2.2.2.2.2.2.2.2.2.2.2.2.2.2.1
theorem dL_law_507 : decode code 507 = .ok (.aload_n 0, 1) := dLq_492.2.2.2.2.2.2.2.2.2.2.2.2.2.2.2
theorem dLq_508 : (decode code 508 = .ok (.iload_n 3, 1)) ∧ (decode code 509 = .ok (.iconst 4, 1)) ∧ (decode code 510 = .ok (.iadd, 1)) ∧ (decode code 511 = .ok (.iaload, 1)) ∧ (decode code 512 = .ok (.invokevirtual 43, 3)) ∧ (decode code 515 = .ok (.pop, 1)) ∧ (decode code 516 = .ok (.goto 965, 3)) ∧ (decode code 519 = .ok (.aload_n 1, 1)) ∧ (decode code 520 = .ok (.aload_n 0, 1)) ∧ (decode code 521 = .ok (.iload_n 3, 1)) ∧ (decode code 522 = .ok (.iconst 1, 1)) ∧ (decode code 523 = .ok (.iadd, 1)) ∧ (decode code 524 = .ok (.iaload, 1)) ∧ (decode code 525 = .ok (.aload_n 0, 1)) ∧ (decode code 526 = .ok (.iload_n 3, 1)) ∧ (decode code 527 = .ok (.iconst 2, 1)) := by decide +kernel
theorem dL_law_508 : decode code 508 = .ok (.iload_n 3, 1) := dLq_508.1
theorem dL_law_509 : decode code 509 = .ok (.iconst 4, 1) := dLq_508.2.1
theorem dL_law_510 : decode code 510 = .ok (.iadd, 1) := dLq_508.2.2.1
theorem dL_law_511 : decode code 511 = .ok (.iaload, 1) := dLq_508.2.2.2.1
theorem dL_law_512 : decode code 512 = .ok (.invokevirtual 43, 3) := dLq_508.2.2.2.2.1
theorem dL_law_515 : decode code 515 = .ok (.pop, 1) := dLq_508.2.2.2.2.2.1
theorem dL_law_516 : decode code 516 = .ok (.goto 965, 3) := dLq_508.2.2.2.2.2.2.1
theorem dL_law_519 : decode code 519 = .ok (.aload_n 1, 1) := dLq_508.2.2.2.2.2.2.2.1
theorem dL_law_520 : decode code 520 = .ok (.aload_n 0, 1) := dLq_508.2.2.2.2.2.2.2.2.1
theorem dL_law_521 : decode code 521 = .ok (.iload_n 3, 1) := dLq_508.2.2.2.2.2.2.2.2.2.1
theorem dL_law_522 : decode code 522 = .ok (.iconst 1, 1) := dLq_508.2.2.2.2.2.2.2.2.2.2.1
theorem dL_law_523 : decode code 523 = .ok (.iadd, 1) := dLq_508.2.2.2.2.2.2.2.2.2.2.2.1
theorem dL_law_524 : decode code 524 = .ok (.iaload, 1) := dLq_508.2.2.2.2.2.2.2.2.2.2.2.2.1
theorem dL_law_525 : decode code 525 = .ok (.aload_n 0, 1) := dLq_508.2.2.2.2.2.2.2.2.2.2.2.2.2.1
theorem dL_law_526 : decode code 526 = .ok (.iload_n 3, 1) := dLq_508.2.2.2.2.2.2.2.2.2.2.2.2.2.2.1
theorem dL_law_527 : decode code 527 = .ok (.iconst 2, 1) := dLq_508.2.2.2.2.2.2.2.2.2.2.2.2.2.2.2
theorem dLq_528 : (decode code 528 = .ok (.iadd, 1)) ∧ (decode code 529 = .ok (.iaload, 1)) ∧ (decode code 530 = .ok (.invokevirtual 44, 3)) ∧ (decode code 533 = .ok (.pop, 1)) ∧ (decode code 534 = .ok (.aload_n 2, 1)) ∧ (decode code 535 = .ok (.aload_n 0, 1)) ∧ (decode code 536 = .ok (.iload_n 3, 1)) ∧ (decode code 537 = .ok (.iconst 1, 1)) ∧ (decode code 538 = .ok (.iadd, 1)) ∧ (decode code 539 = .ok (.iaload, 1)) ∧ (decode code 540 = .ok (.aload_n 0, 1)) ∧ (decode code 541 = .ok (.iload_n 3, 1)) ∧ (decode code 542 = .ok (.iconst 2, 1)) ∧ (decode code 543 = .ok (.iadd, 1)) ∧ (decode code 544 = .ok (.iaload, 1)) ∧ (decode code 545 = .ok (.invokevirtual 47, 3)) := by decide +kernel
theorem dL_law_528 : decode code 528 = .ok (.iadd, 1) := dLq_528.1
theorem dL_law_529 : decode code 529 = .ok (.iaload, 1) := dLq_528.2.1
theorem dL_law_530 : decode code 530 = .ok (.invokevirtual 44, 3) := dLq_528.2.2.1
theorem dL_law_533 : decode code 533 = .ok (.pop, 1) := dLq_528.2.2.2.1
theorem dL_law_534 : decode code 534 = .ok (.aload_n 2, 1) := dLq_528.2.2.2.2.1
theorem dL_law_535 : decode code 535 = .ok (.aload_n 0, 1) := dLq_528.2.2.2.2.2.1
theorem dL_law_536 : decode code 536 = .ok (.iload_n 3, 1) := dLq_528.2.2.2.2.2.2.1
theorem dL_law_537 : decode code 537 = .ok (.iconst 1, 1) := dLq_528.2.2.2.2.2.2.2.1
theorem dL_law_538 : decode code 538 = .ok (.iadd, 1) := dLq_528.2.2.2.2.2.2.2.2.1
theorem dL_law_539 : decode code 539 = .ok (.iaload, 1) := dLq_528.2.2.2.2.2.2.2.2.2.1
theorem dL_law_540 : decode code 540 = .ok (.aload_n 0, 1) := dLq_528.2.2.2.2.2.2.2.2.2.2.1
theorem dL_law_541 : decode code 541 = .ok (.iload_n 3, 1) := dLq_528.2.2.2.2.2.2.2.2.2.2.2.1
theorem dL_law_542 : decode code 542 = .ok (.iconst 2, 1) := dLq_528.2.2.2.2.2.2.2.2.2.2.2.2.1
theorem dL_law_543 : decode code 543 = .ok (.iadd, 1) := dLq_528.2.2.2.2.2.2.2.2.2.2.2.2.2.1
theorem dL_law_544 : decode code 544 = .ok (.iaload, 1) := dLq_528.2.2.2.2.2.2.2.2.2.2.2.2.2.2.1
theorem dL_law_545 : decode code 545 = .ok (.invokevirtual 47, 3) := dLq_528.2.2.2.2.2.2.2.2.2.2.2.2.2.2.2
theorem dLq_548 : (decode code 548 = .ok (.pop, 1)) ∧ (decode code 549 = .ok (.goto 932, 3)) ∧ (decode code 552 = .ok (.aload_n 1, 1)) ∧ (decode code 553 = .ok (.aload_n 0, 1)) ∧ (decode code 554 = .ok (.iload_n 3, 1)) ∧ (decode code 555 = .ok (.iconst 1, 1)) ∧ (decode code 556 = .ok (.iadd, 1)) ∧ (decode code 557 = .ok (.iaload, 1)) ∧ (decode code 558 = .ok (.aload_n 0, 1)) ∧ (decode code 559 = .ok (.iload_n 3, 1)) ∧ (decode code 560 = .ok (.iconst 2, 1)) ∧ (decode code 561 = .ok (.iadd, 1)) ∧ (decode code 562 = .ok (.iaload, 1)) ∧ (decode code 563 = .ok (.ifCond .eq 7, 3)) ∧ (decode code 566 = .ok (.iconst 1, 1)) ∧ (decode code 567 = .ok (.goto 4, 3)) := by decide +kernel
theorem dL_law_548 : decode code 548 = .ok (.pop, 1) := dLq_548.1
theorem dL_law_549 : decode code 549 = .ok (.goto 932, 3) := dLq_548.2.1
theorem dL_law_552 : decode code 552 = .ok (.aload_n 1, 1) := dLq_548.2.2.1
theorem dL_law_553 : decode code 553 = .ok (.aload_n 0, 1) := dLq_548.2.2.2.1
theorem dL_law_554 : decode code 554 = .ok (.iload_n 3, 1) := dLq_548.2.2.2.2.1
theorem dL_law_555 : decode code 555 = .ok (.iconst 1, 1) := dLq_548.2.2.2.2.2.1
theorem dL_law_556 : decode code 556 = .ok (.iadd, 1) := dLq_548.2.2.2.2.2.2.1
theorem dL_law_557 : decode code 557 = .ok (.iaload, 1) := dLq_548.2.2.2.2.2.2.2.1
theorem dL_law_558 : decode code 558 = .ok (.aload_n 0, 1) := dLq_548.2.2.2.2.2.2.2.2.1
theorem dL_law_559 : decode code 559 = .ok (.iload_n 3, 1) := dLq_548.2.2.2.2.2.2.2.2.2.1
theorem dL_law_560 : decode code 560 = .ok (.iconst 2, 1) := dLq_548.2.2.2.2.2.2.2.2.2.2.1
theorem dL_law_561 : decode code 561 = .ok (.iadd, 1) := dLq_548.2.2.2.2.2.2.2.2.2.2.2.1
theorem dL_law_562 : decode code 562 = .ok (.iaload, 1) := dLq_548.2.2.2.2.2.2.2.2.2.2.2.2.1
theorem dL_law_563 : decode code 563 = .ok (.ifCond .eq 7, 3) := dLq_548.2.2.2.2.2.2.2.2.2.2.2.2.2.1
theorem dL_law_566 : decode code 566 = .ok (.iconst 1, 1) := dLq_548.2.2.2.2.2.2.2.2.2.2.2.2.2.2.1
theorem dL_law_567 : decode code 567 = .ok (.goto 4, 3) := dLq_548.2.2.2.2.2.2.2.2.2.2.2.2.2.2.2
theorem dLq_570 : (decode code 570 = .ok (.iconst 0, 1)) ∧ (decode code 571 = .ok (.invokevirtual 48, 3)) ∧ (decode code 574 = .ok (.pop, 1)) ∧ (decode code 575 = .ok (.aload_n 2, 1)) ∧ (decode code 576 = .ok (.aload_n 0, 1)) ∧ (decode code 577 = .ok (.iload_n 3, 1)) ∧ (decode code 578 = .ok (.iconst 1, 1)) ∧ (decode code 579 = .ok (.iadd, 1)) ∧ (decode code 580 = .ok (.iaload, 1)) ∧ (decode code 581 = .ok (.aload_n 0, 1)) ∧ (decode code 582 = .ok (.iload_n 3, 1)) ∧ (decode code 583 = .ok (.iconst 2, 1)) ∧ (decode code 584 = .ok (.iadd, 1)) ∧ (decode code 585 = .ok (.iaload, 1)) ∧ (decode code 586 = .ok (.ifCond .eq 7, 3)) ∧ (decode code 589 = .ok (.iconst 1, 1)) := by decide +kernel
theorem dL_law_570 : decode code 570 = .ok (.iconst 0, 1) := dLq_570.1
theorem dL_law_571 : decode code 571 = .ok (.invokevirtual 48, 3) := dLq_570.2.1
theorem dL_law_574 : decode code 574 = .ok (.pop, 1) := dLq_570.2.2.1
theorem dL_law_575 : decode code 575 = .ok (.aload_n 2, 1) := dLq_570.2.2.2.1
theorem dL_law_576 : decode code 576 = .ok (.aload_n 0, 1) := dLq_570.2.2.2.2.1
theorem dL_law_577 : decode code 577 = .ok (.iload_n 3, 1) := dLq_570.2.2.2.2.2.1
theorem dL_law_578 : decode code 578 = .ok (.iconst 1, 1) := dLq_570.2.2.2.2.2.2.1
theorem dL_law_579 : decode code 579 = .ok (.iadd, 1) := dLq_570.2.2.2.2.2.2.2.1
theorem dL_law_580 : decode code 580 = .ok (.iaload, 1) := dLq_570.2.2.2.2.2.2.2.2.1
theorem dL_law_581 : decode code 581 = .ok (.aload_n 0, 1) := dLq_570.2.2.2.2.2.2.2.2.2.1
theorem dL_law_582 : decode code 582 = .ok (.iload_n 3, 1) := dLq_570.2.2.2.2.2.2.2.2.2.2.1
theorem dL_law_583 : decode code 583 = .ok (.iconst 2, 1) := dLq_570.2.2.2.2.2.2.2.2.2.2.2.1
theorem dL_law_584 : decode code 584 = .ok (.iadd, 1) := dLq_570.2.2.2.2.2.2.2.2.2.2.2.2.1
theorem dL_law_585 : decode code 585 = .ok (.iaload, 1) := dLq_570.2.2.2.2.2.2.2.2.2.2.2.2.2.1
theorem dL_law_586 : decode code 586 = .ok (.ifCond .eq 7, 3) := dLq_570.2.2.2.2.2.2.2.2.2.2.2.2.2.2.1
theorem dL_law_589 : decode code 589 = .ok (.iconst 1, 1) := dLq_570.2.2.2.2.2.2.2.2.2.2.2.2.2.2.2
theorem dLq_590 : (decode code 590 = .ok (.goto 4, 3)) ∧ (decode code 593 = .ok (.iconst 0, 1)) ∧ (decode code 594 = .ok (.invokevirtual 52, 3)) ∧ (decode code 597 = .ok (.pop, 1)) ∧ (decode code 598 = .ok (.goto 883, 3)) ∧ (decode code 601 = .ok (.aload_n 1, 1)) ∧ (decode code 602 = .ok (.aload_n 0, 1)) ∧ (decode code 603 = .ok (.iload_n 3, 1)) ∧ (decode code 604 = .ok (.iconst 1, 1)) ∧ (decode code 605 = .ok (.iadd, 1)) ∧ (decode code 606 = .ok (.iaload, 1)) ∧ (decode code 607 = .ok (.aload_n 0, 1)) ∧ (decode code 608 = .ok (.iload_n 3, 1)) ∧ (decode code 609 = .ok (.iconst 2, 1)) ∧ (decode code 610 = .ok (.iadd, 1)) ∧ (decode code 611 = .ok (.iaload, 1)) := by decide +kernel
theorem dL_law_590 : decode code 590 = .ok (.goto 4, 3) := dLq_590.1
theorem dL_law_593 : decode code 593 = .ok (.iconst 0, 1) := dLq_590.2.1
theorem dL_law_594 : decode code 594 = .ok (.invokevirtual 52, 3) := dLq_590.2.2.1
theorem dL_law_597 : decode code 597 = .ok (.pop, 1) := dLq_590.2.2.2.1
theorem dL_law_598 : decode code 598 = .ok (.goto 883, 3) := dLq_590.2.2.2.2.1
theorem dL_law_601 : decode code 601 = .ok (.aload_n 1, 1) := dLq_590.2.2.2.2.2.1
theorem dL_law_602 : decode code 602 = .ok (.aload_n 0, 1) := dLq_590.2.2.2.2.2.2.1
theorem dL_law_603 : decode code 603 = .ok (.iload_n 3, 1) := dLq_590.2.2.2.2.2.2.2.1
theorem dL_law_604 : decode code 604 = .ok (.iconst 1, 1) := dLq_590.2.2.2.2.2.2.2.2.1
theorem dL_law_605 : decode code 605 = .ok (.iadd, 1) := dLq_590.2.2.2.2.2.2.2.2.2.1
theorem dL_law_606 : decode code 606 = .ok (.iaload, 1) := dLq_590.2.2.2.2.2.2.2.2.2.2.1
theorem dL_law_607 : decode code 607 = .ok (.aload_n 0, 1) := dLq_590.2.2.2.2.2.2.2.2.2.2.2.1
theorem dL_law_608 : decode code 608 = .ok (.iload_n 3, 1) := dLq_590.2.2.2.2.2.2.2.2.2.2.2.2.1
theorem dL_law_609 : decode code 609 = .ok (.iconst 2, 1) := dLq_590.2.2.2.2.2.2.2.2.2.2.2.2.2.1
theorem dL_law_610 : decode code 610 = .ok (.iadd, 1) := dLq_590.2.2.2.2.2.2.2.2.2.2.2.2.2.2.1
theorem dL_law_611 : decode code 611 = .ok (.iaload, 1) := dLq_590.2.2.2.2.2.2.2.2.2.2.2.2.2.2.2
theorem dLq_612 : (decode code 612 = .ok (.invokevirtual 53, 3)) ∧ (decode code 615 = .ok (.pop, 1)) ∧ (decode code 616 = .ok (.aload_n 2, 1)) ∧ (decode code 617 = .ok (.aload_n 0, 1)) ∧ (decode code 618 = .ok (.iload_n 3, 1)) ∧ (decode code 619 = .ok (.iconst 1, 1)) ∧ (decode code 620 = .ok (.iadd, 1)) ∧ (decode code 621 = .ok (.iaload, 1)) ∧ (decode code 622 = .ok (.aload_n 0, 1)) ∧ (decode code 623 = .ok (.iload_n 3, 1)) ∧ (decode code 624 = .ok (.iconst 2, 1)) ∧ (decode code 625 = .ok (.iadd, 1)) ∧ (decode code 626 = .ok (.iaload, 1)) ∧ (decode code 627 = .ok (.invokevirtual 56, 3)) ∧ (decode code 630 = .ok (.pop, 1)) ∧ (decode code 631 = .ok (.goto 850, 3)) := by decide +kernel
theorem dL_law_612 : decode code 612 = .ok (.invokevirtual 53, 3) := dLq_612.1
theorem dL_law_615 : decode code 615 = .ok (.pop, 1) := dLq_612.2.1
theorem dL_law_616 : decode code 616 = .ok (.aload_n 2, 1) := dLq_612.2.2.1
theorem dL_law_617 : decode code 617 = .ok (.aload_n 0, 1) := dLq_612.2.2.2.1
theorem dL_law_618 : decode code 618 = .ok (.iload_n 3, 1) := dLq_612.2.2.2.2.1
theorem dL_law_619 : decode code 619 = .ok (.iconst 1, 1) := dLq_612.2.2.2.2.2.1
theorem dL_law_620 : decode code 620 = .ok (.iadd, 1) := dLq_612.2.2.2.2.2.2.1
theorem dL_law_621 : decode code 621 = .ok (.iaload, 1) := dLq_612.2.2.2.2.2.2.2.1
theorem dL_law_622 : decode code 622 = .ok (.aload_n 0, 1) := dLq_612.2.2.2.2.2.2.2.2.1
theorem dL_law_623 : decode code 623 = .ok (.iload_n 3, 1) := dLq_612.2.2.2.2.2.2.2.2.2.1
theorem dL_law_624 : decode code 624 = .ok (.iconst 2, 1) := dLq_612.2.2.2.2.2.2.2.2.2.2.1
theorem dL_law_625 : decode code 625 = .ok (.iadd, 1) := dLq_612.2.2.2.2.2.2.2.2.2.2.2.1
theorem dL_law_626 : decode code 626 = .ok (.iaload, 1) := dLq_612.2.2.2.2.2.2.2.2.2.2.2.2.1
theorem dL_law_627 : decode code 627 = .ok (.invokevirtual 56, 3) := dLq_612.2.2.2.2.2.2.2.2.2.2.2.2.2.1
theorem dL_law_630 : decode code 630 = .ok (.pop, 1) := dLq_612.2.2.2.2.2.2.2.2.2.2.2.2.2.2.1
theorem dL_law_631 : decode code 631 = .ok (.goto 850, 3) := dLq_612.2.2.2.2.2.2.2.2.2.2.2.2.2.2.2
theorem dLq_634 : (decode code 634 = .ok (.aload_n 1, 1)) ∧ (decode code 635 = .ok (.aload_n 0, 1)) ∧ (decode code 636 = .ok (.iload_n 3, 1)) ∧ (decode code 637 = .ok (.iconst 1, 1)) ∧ (decode code 638 = .ok (.iadd, 1)) ∧ (decode code 639 = .ok (.iaload, 1)) ∧ (decode code 640 = .ok (.invokevirtual 57, 3)) ∧ (decode code 643 = .ok (.pop, 1)) ∧ (decode code 644 = .ok (.aload_n 2, 1)) ∧ (decode code 645 = .ok (.aload_n 0, 1)) ∧ (decode code 646 = .ok (.iload_n 3, 1)) ∧ (decode code 647 = .ok (.iconst 1, 1)) ∧ (decode code 648 = .ok (.iadd, 1)) ∧ (decode code 649 = .ok (.iaload, 1)) ∧ (decode code 650 = .ok (.invokevirtual 61, 3)) ∧ (decode code 653 = .ok (.pop, 1)) := by decide +kernel
theorem dL_law_634 : decode code 634 = .ok (.aload_n 1, 1) := dLq_634.1
theorem dL_law_635 : decode code 635 = .ok (.aload_n 0, 1) := dLq_634.2.1
theorem dL_law_636 : decode code 636 = .ok (.iload_n 3, 1) := dLq_634.2.2.1
theorem dL_law_637 : decode code 637 = .ok (.iconst 1, 1) := dLq_634.2.2.2.1
theorem dL_law_638 : decode code 638 = .ok (.iadd, 1) := dLq_634.2.2.2.2.1
theorem dL_law_639 : decode code 639 = .ok (.iaload, 1) := dLq_634.2.2.2.2.2.1
theorem dL_law_640 : decode code 640 = .ok (.invokevirtual 57, 3) := dLq_634.2.2.2.2.2.2.1
theorem dL_law_643 : decode code 643 = .ok (.pop, 1) := dLq_634.2.2.2.2.2.2.2.1
theorem dL_law_644 : decode code 644 = .ok (.aload_n 2, 1) := dLq_634.2.2.2.2.2.2.2.2.1
theorem dL_law_645 : decode code 645 = .ok (.aload_n 0, 1) := dLq_634.2.2.2.2.2.2.2.2.2.1
theorem dL_law_646 : decode code 646 = .ok (.iload_n 3, 1) := dLq_634.2.2.2.2.2.2.2.2.2.2.1
theorem dL_law_647 : decode code 647 = .ok (.iconst 1, 1) := dLq_634.2.2.2.2.2.2.2.2.2.2.2.1
theorem dL_law_648 : decode code 648 = .ok (.iadd, 1) := dLq_634.2.2.2.2.2.2.2.2.2.2.2.2.1
theorem dL_law_649 : decode code 649 = .ok (.iaload, 1) := dLq_634.2.2.2.2.2.2.2.2.2.2.2.2.2.1
theorem dL_law_650 : decode code 650 = .ok (.invokevirtual 61, 3) := dLq_634.2.2.2.2.2.2.2.2.2.2.2.2.2.2.1
theorem dL_law_653 : decode code 653 = .ok (.pop, 1) := dLq_634.2.2.2.2.2.2.2.2.2.2.2.2.2.2.2
theorem dLq_654 : (decode code 654 = .ok (.goto 827, 3)) ∧ (decode code 657 = .ok (.aload_n 1, 1)) ∧ (decode code 658 = .ok (.aload_n 0, 1)) ∧ (decode code 659 = .ok (.iload_n 3, 1)) ∧ (decode code 660 = .ok (.iconst 1, 1)) ∧ (decode code 661 = .ok (.iadd, 1)) ∧ (decode code 662 = .ok (.iaload, 1)) ∧ (decode code 663 = .ok (.aload_n 0, 1)) ∧ (decode code 664 = .ok (.iload_n 3, 1)) ∧ (decode code 665 = .ok (.iconst 2, 1)) ∧ (decode code 666 = .ok (.iadd, 1)) ∧ (decode code 667 = .ok (.iaload, 1)) ∧ (decode code 668 = .ok (.aload_n 0, 1)) ∧ (decode code 669 = .ok (.iload_n 3, 1)) ∧ (decode code 670 = .ok (.iconst 3, 1)) ∧ (decode code 671 = .ok (.iadd, 1)) := by decide +kernel
theorem dL_law_654 : decode code 654 = .ok (.goto 827, 3) := dLq_654.1
theorem dL_law_657 : decode code 657 = .ok (.aload_n 1, 1) := dLq_654.2.1
theorem dL_law_658 : decode code 658 = .ok (.aload_n 0, 1) := dLq_654.2.2.1
theorem dL_law_659 : decode code 659 = .ok (.iload_n 3, 1) := dLq_654.2.2.2.1
theorem dL_law_660 : decode code 660 = .ok (.iconst 1, 1) := dLq_654.2.2.2.2.1
theorem dL_law_661 : decode code 661 = .ok (.iadd, 1) := dLq_654.2.2.2.2.2.1
theorem dL_law_662 : decode code 662 = .ok (.iaload, 1) := dLq_654.2.2.2.2.2.2.1
theorem dL_law_663 : decode code 663 = .ok (.aload_n 0, 1) := dLq_654.2.2.2.2.2.2.2.1
theorem dL_law_664 : decode code 664 = .ok (.iload_n 3, 1) := dLq_654.2.2.2.2.2.2.2.2.1
theorem dL_law_665 : decode code 665 = .ok (.iconst 2, 1) := dLq_654.2.2.2.2.2.2.2.2.2.1
theorem dL_law_666 : decode code 666 = .ok (.iadd, 1) := dLq_654.2.2.2.2.2.2.2.2.2.2.1
theorem dL_law_667 : decode code 667 = .ok (.iaload, 1) := dLq_654.2.2.2.2.2.2.2.2.2.2.2.1
theorem dL_law_668 : decode code 668 = .ok (.aload_n 0, 1) := dLq_654.2.2.2.2.2.2.2.2.2.2.2.2.1
theorem dL_law_669 : decode code 669 = .ok (.iload_n 3, 1) := dLq_654.2.2.2.2.2.2.2.2.2.2.2.2.2.1
theorem dL_law_670 : decode code 670 = .ok (.iconst 3, 1) := dLq_654.2.2.2.2.2.2.2.2.2.2.2.2.2.2.1
theorem dL_law_671 : decode code 671 = .ok (.iadd, 1) := dLq_654.2.2.2.2.2.2.2.2.2.2.2.2.2.2.2
theorem dLq_672 : (decode code 672 = .ok (.iaload, 1)) ∧ (decode code 673 = .ok (.invokevirtual 62, 3)) ∧ (decode code 676 = .ok (.pop, 1)) ∧ (decode code 677 = .ok (.aload_n 2, 1)) ∧ (decode code 678 = .ok (.aload_n 0, 1)) ∧ (decode code 679 = .ok (.iload_n 3, 1)) ∧ (decode code 680 = .ok (.iconst 1, 1)) ∧ (decode code 681 = .ok (.iadd, 1)) ∧ (decode code 682 = .ok (.iaload, 1)) ∧ (decode code 683 = .ok (.aload_n 0, 1)) ∧ (decode code 684 = .ok (.iload_n 3, 1)) ∧ (decode code 685 = .ok (.iconst 2, 1)) ∧ (decode code 686 = .ok (.iadd, 1)) ∧ (decode code 687 = .ok (.iaload, 1)) ∧ (decode code 688 = .ok (.aload_n 0, 1)) ∧ (decode code 689 = .ok (.iload_n 3, 1)) := by decide +kernel
theorem dL_law_672 : decode code 672 = .ok (.iaload, 1) := dLq_672.1
theorem dL_law_673 : decode code 673 = .ok (.invokevirtual 62, 3) := dLq_672.2.1
theorem dL_law_676 : decode code 676 = .ok (.pop, 1) := dLq_672.2.2.1
theorem dL_law_677 : decode code 677 = .ok (.aload_n 2, 1) := dLq_672.2.2.2.1
theorem dL_law_678 : decode code 678 = .ok (.aload_n 0, 1) := dLq_672.2.2.2.2.1
theorem dL_law_679 : decode code 679 = .ok (.iload_n 3, 1) := dLq_672.2.2.2.2.2.1
theorem dL_law_680 : decode code 680 = .ok (.iconst 1, 1) := dLq_672.2.2.2.2.2.2.1
theorem dL_law_681 : decode code 681 = .ok (.iadd, 1) := dLq_672.2.2.2.2.2.2.2.1
theorem dL_law_682 : decode code 682 = .ok (.iaload, 1) := dLq_672.2.2.2.2.2.2.2.2.1
theorem dL_law_683 : decode code 683 = .ok (.aload_n 0, 1) := dLq_672.2.2.2.2.2.2.2.2.2.1
theorem dL_law_684 : decode code 684 = .ok (.iload_n 3, 1) := dLq_672.2.2.2.2.2.2.2.2.2.2.1
theorem dL_law_685 : decode code 685 = .ok (.iconst 2, 1) := dLq_672.2.2.2.2.2.2.2.2.2.2.2.1
theorem dL_law_686 : decode code 686 = .ok (.iadd, 1) := dLq_672.2.2.2.2.2.2.2.2.2.2.2.2.1
theorem dL_law_687 : decode code 687 = .ok (.iaload, 1) := dLq_672.2.2.2.2.2.2.2.2.2.2.2.2.2.1
theorem dL_law_688 : decode code 688 = .ok (.aload_n 0, 1) := dLq_672.2.2.2.2.2.2.2.2.2.2.2.2.2.2.1
theorem dL_law_689 : decode code 689 = .ok (.iload_n 3, 1) := dLq_672.2.2.2.2.2.2.2.2.2.2.2.2.2.2.2
theorem dLq_690 : (decode code 690 = .ok (.iconst 3, 1)) ∧ (decode code 691 = .ok (.iadd, 1)) ∧ (decode code 692 = .ok (.iaload, 1)) ∧ (decode code 693 = .ok (.invokevirtual 66, 3)) ∧ (decode code 696 = .ok (.pop, 1)) ∧ (decode code 697 = .ok (.goto 784, 3)) ∧ (decode code 700 = .ok (.aload_n 1, 1)) ∧ (decode code 701 = .ok (.aload_n 0, 1)) ∧ (decode code 702 = .ok (.iload_n 3, 1)) ∧ (decode code 703 = .ok (.iconst 1, 1)) ∧ (decode code 704 = .ok (.iadd, 1)) ∧ (decode code 705 = .ok (.iaload, 1)) ∧ (decode code 706 = .ok (.invokevirtual 67, 3)) ∧ (decode code 709 = .ok (.pop, 1)) ∧ (decode code 710 = .ok (.aload_n 2, 1)) ∧ (decode code 711 = .ok (.aload_n 0, 1)) := by decide +kernel
theorem dL_law_690 : decode code 690 = .ok (.iconst 3, 1) := dLq_690.1
theorem dL_law_691 : decode code 691 = .ok (.iadd, 1) := dLq_690.2.1
theorem dL_law_692 : decode code 692 = .ok (.iaload, 1) := dLq_690.2.2.1
theorem dL_law_693 : decode code 693 = .ok (.invokevirtual 66, 3) := dLq_690.2.2.2.1
theorem dL_law_696 : decode code 696 = .ok (.pop, 1) := dLq_690.2.2.2.2.1
theorem dL_law_697 : decode code 697 = .ok (.goto 784, 3) := dLq_690.2.2.2.2.2.1
theorem dL_law_700 : decode code 700 = .ok (.aload_n 1, 1) := dLq_690.2.2.2.2.2.2.1
theorem dL_law_701 : decode code 701 = .ok (.aload_n 0, 1) := dLq_690.2.2.2.2.2.2.2.1
theorem dL_law_702 : decode code 702 = .ok (.iload_n 3, 1) := dLq_690.2.2.2.2.2.2.2.2.1
theorem dL_law_703 : decode code 703 = .ok (.iconst 1, 1) := dLq_690.2.2.2.2.2.2.2.2.2.1
theorem dL_law_704 : decode code 704 = .ok (.iadd, 1) := dLq_690.2.2.2.2.2.2.2.2.2.2.1
theorem dL_law_705 : decode code 705 = .ok (.iaload, 1) := dLq_690.2.2.2.2.2.2.2.2.2.2.2.1
theorem dL_law_706 : decode code 706 = .ok (.invokevirtual 67, 3) := dLq_690.2.2.2.2.2.2.2.2.2.2.2.2.1
theorem dL_law_709 : decode code 709 = .ok (.pop, 1) := dLq_690.2.2.2.2.2.2.2.2.2.2.2.2.2.1
theorem dL_law_710 : decode code 710 = .ok (.aload_n 2, 1) := dLq_690.2.2.2.2.2.2.2.2.2.2.2.2.2.2.1
theorem dL_law_711 : decode code 711 = .ok (.aload_n 0, 1) := dLq_690.2.2.2.2.2.2.2.2.2.2.2.2.2.2.2
theorem dLq_712 : (decode code 712 = .ok (.iload_n 3, 1)) ∧ (decode code 713 = .ok (.iconst 1, 1)) ∧ (decode code 714 = .ok (.iadd, 1)) ∧ (decode code 715 = .ok (.iaload, 1)) ∧ (decode code 716 = .ok (.invokevirtual 70, 3)) ∧ (decode code 719 = .ok (.pop, 1)) ∧ (decode code 720 = .ok (.goto 761, 3)) ∧ (decode code 723 = .ok (.aload_n 1, 1)) ∧ (decode code 724 = .ok (.aload_n 0, 1)) ∧ (decode code 725 = .ok (.iload_n 3, 1)) ∧ (decode code 726 = .ok (.iconst 1, 1)) ∧ (decode code 727 = .ok (.iadd, 1)) ∧ (decode code 728 = .ok (.iaload, 1)) ∧ (decode code 729 = .ok (.aload_n 0, 1)) ∧ (decode code 730 = .ok (.iload_n 3, 1)) ∧ (decode code 731 = .ok (.iconst 2, 1)) := by decide +kernel
theorem dL_law_712 : decode code 712 = .ok (.iload_n 3, 1) := dLq_712.1
theorem dL_law_713 : decode code 713 = .ok (.iconst 1, 1) := dLq_712.2.1
theorem dL_law_714 : decode code 714 = .ok (.iadd, 1) := dLq_712.2.2.1
theorem dL_law_715 : decode code 715 = .ok (.iaload, 1) := dLq_712.2.2.2.1
theorem dL_law_716 : decode code 716 = .ok (.invokevirtual 70, 3) := dLq_712.2.2.2.2.1
theorem dL_law_719 : decode code 719 = .ok (.pop, 1) := dLq_712.2.2.2.2.2.1
theorem dL_law_720 : decode code 720 = .ok (.goto 761, 3) := dLq_712.2.2.2.2.2.2.1
theorem dL_law_723 : decode code 723 = .ok (.aload_n 1, 1) := dLq_712.2.2.2.2.2.2.2.1
theorem dL_law_724 : decode code 724 = .ok (.aload_n 0, 1) := dLq_712.2.2.2.2.2.2.2.2.1
theorem dL_law_725 : decode code 725 = .ok (.iload_n 3, 1) := dLq_712.2.2.2.2.2.2.2.2.2.1
theorem dL_law_726 : decode code 726 = .ok (.iconst 1, 1) := dLq_712.2.2.2.2.2.2.2.2.2.2.1
theorem dL_law_727 : decode code 727 = .ok (.iadd, 1) := dLq_712.2.2.2.2.2.2.2.2.2.2.2.1
theorem dL_law_728 : decode code 728 = .ok (.iaload, 1) := dLq_712.2.2.2.2.2.2.2.2.2.2.2.2.1
theorem dL_law_729 : decode code 729 = .ok (.aload_n 0, 1) := dLq_712.2.2.2.2.2.2.2.2.2.2.2.2.2.1
theorem dL_law_730 : decode code 730 = .ok (.iload_n 3, 1) := dLq_712.2.2.2.2.2.2.2.2.2.2.2.2.2.2.1
theorem dL_law_731 : decode code 731 = .ok (.iconst 2, 1) := dLq_712.2.2.2.2.2.2.2.2.2.2.2.2.2.2.2
theorem dLq_732 : (decode code 732 = .ok (.iadd, 1)) ∧ (decode code 733 = .ok (.iaload, 1)) ∧ (decode code 734 = .ok (.aload_n 0, 1)) ∧ (decode code 735 = .ok (.iload_n 3, 1)) ∧ (decode code 736 = .ok (.iconst 3, 1)) ∧ (decode code 737 = .ok (.iadd, 1)) ∧ (decode code 738 = .ok (.iaload, 1)) ∧ (decode code 739 = .ok (.aload_n 0, 1)) ∧ (decode code 740 = .ok (.iload_n 3, 1)) ∧ (decode code 741 = .ok (.iconst 4, 1)) ∧ (decode code 742 = .ok (.iadd, 1)) ∧ (decode code 743 = .ok (.iaload, 1)) ∧ (decode code 744 = .ok (.aload_n 0, 1)) ∧ (decode code 745 = .ok (.iload_n 3, 1)) ∧ (decode code 746 = .ok (.iconst 5, 1)) ∧ (decode code 747 = .ok (.iadd, 1)) := by decide +kernel
theorem dL_law_732 : decode code 732 = .ok (.iadd, 1) := dLq_732.1
theorem dL_law_733 : decode code 733 = .ok (.iaload, 1) := dLq_732.2.1
theorem dL_law_734 : decode code 734 = .ok (.aload_n 0, 1) := dLq_732.2.2.1
theorem dL_law_735 : decode code 735 = .ok (.iload_n 3, 1) := dLq_732.2.2.2.1
theorem dL_law_736 : decode code 736 = .ok (.iconst 3, 1) := dLq_732.2.2.2.2.1
theorem dL_law_737 : decode code 737 = .ok (.iadd, 1) := dLq_732.2.2.2.2.2.1
theorem dL_law_738 : decode code 738 = .ok (.iaload, 1) := dLq_732.2.2.2.2.2.2.1
theorem dL_law_739 : decode code 739 = .ok (.aload_n 0, 1) := dLq_732.2.2.2.2.2.2.2.1
theorem dL_law_740 : decode code 740 = .ok (.iload_n 3, 1) := dLq_732.2.2.2.2.2.2.2.2.1
theorem dL_law_741 : decode code 741 = .ok (.iconst 4, 1) := dLq_732.2.2.2.2.2.2.2.2.2.1
theorem dL_law_742 : decode code 742 = .ok (.iadd, 1) := dLq_732.2.2.2.2.2.2.2.2.2.2.1
theorem dL_law_743 : decode code 743 = .ok (.iaload, 1) := dLq_732.2.2.2.2.2.2.2.2.2.2.2.1
theorem dL_law_744 : decode code 744 = .ok (.aload_n 0, 1) := dLq_732.2.2.2.2.2.2.2.2.2.2.2.2.1
theorem dL_law_745 : decode code 745 = .ok (.iload_n 3, 1) := dLq_732.2.2.2.2.2.2.2.2.2.2.2.2.2.1
theorem dL_law_746 : decode code 746 = .ok (.iconst 5, 1) := dLq_732.2.2.2.2.2.2.2.2.2.2.2.2.2.2.1
theorem dL_law_747 : decode code 747 = .ok (.iadd, 1) := dLq_732.2.2.2.2.2.2.2.2.2.2.2.2.2.2.2
theorem dLq_748 : (decode code 748 = .ok (.iaload, 1)) ∧ (decode code 749 = .ok (.invokevirtual 71, 3)) ∧ (decode code 752 = .ok (.pop, 1)) ∧ (decode code 753 = .ok (.aload_n 2, 1)) ∧ (decode code 754 = .ok (.aload_n 0, 1)) ∧ (decode code 755 = .ok (.iload_n 3, 1)) ∧ (decode code 756 = .ok (.iconst 1, 1)) ∧ (decode code 757 = .ok (.iadd, 1)) ∧ (decode code 758 = .ok (.iaload, 1)) ∧ (decode code 759 = .ok (.aload_n 0, 1)) ∧ (decode code 760 = .ok (.iload_n 3, 1)) ∧ (decode code 761 = .ok (.iconst 2, 1)) ∧ (decode code 762 = .ok (.iadd, 1)) ∧ (decode code 763 = .ok (.iaload, 1)) ∧ (decode code 764 = .ok (.aload_n 0, 1)) ∧ (decode code 765 = .ok (.iload_n 3, 1)) := by decide +kernel
theorem dL_law_748 : decode code 748 = .ok (.iaload, 1) := dLq_748.1
theorem dL_law_749 : decode code 749 = .ok (.invokevirtual 71, 3) := dLq_748.2.1
theorem dL_law_752 : decode code 752 = .ok (.pop, 1) := dLq_748.2.2.1
theorem dL_law_753 : decode code 753 = .ok (.aload_n 2, 1) := dLq_748.2.2.2.1
theorem dL_law_754 : decode code 754 = .ok (.aload_n 0, 1) := dLq_748.2.2.2.2.1
theorem dL_law_755 : decode code 755 = .ok (.iload_n 3, 1) := dLq_748.2.2.2.2.2.1
theorem dL_law_756 : decode code 756 = .ok (.iconst 1, 1) := dLq_748.2.2.2.2.2.2.1
theorem dL_law_757 : decode code 757 = .ok (.iadd, 1) := dLq_748.2.2.2.2.2.2.2.1
theorem dL_law_758 : decode code 758 = .ok (.iaload, 1) := dLq_748.2.2.2.2.2.2.2.2.1
theorem dL_law_759 : decode code 759 = .ok (.aload_n 0, 1) := dLq_748.2.2.2.2.2.2.2.2.2.1
theorem dL_law_760 : decode code 760 = .ok (.iload_n 3, 1) := dLq_748.2.2.2.2.2.2.2.2.2.2.1
theorem dL_law_761 : decode code 761 = .ok (.iconst 2, 1) := dLq_748.2.2.2.2.2.2.2.2.2.2.2.1
theorem dL_law_762 : decode code 762 = .ok (.iadd, 1) := dLq_748.2.2.2.2.2.2.2.2.2.2.2.2.1
theorem dL_law_763 : decode code 763 = .ok (.iaload, 1) := dLq_748.2.2.2.2.2.2.2.2.2.2.2.2.2.1
theorem dL_law_764 : decode code 764 = .ok (.aload_n 0, 1) := dLq_748.2.2.2.2.2.2.2.2.2.2.2.2.2.2.1
theorem dL_law_765 : decode code 765 = .ok (.iload_n 3, 1) := dLq_748.2.2.2.2.2.2.2.2.2.2.2.2.2.2.2
theorem dLq_766 : (decode code 766 = .ok (.iconst 3, 1)) ∧ (decode code 767 = .ok (.iadd, 1)) ∧ (decode code 768 = .ok (.iaload, 1)) ∧ (decode code 769 = .ok (.aload_n 0, 1)) ∧ (decode code 770 = .ok (.iload_n 3, 1)) ∧ (decode code 771 = .ok (.iconst 4, 1)) ∧ (decode code 772 = .ok (.iadd, 1)) ∧ (decode code 773 = .ok (.iaload, 1)) ∧ (decode code 774 = .ok (.aload_n 0, 1)) ∧ (decode code 775 = .ok (.iload_n 3, 1)) ∧ (decode code 776 = .ok (.iconst 5, 1)) ∧ (decode code 777 = .ok (.iadd, 1)) ∧ (decode code 778 = .ok (.iaload, 1)) ∧ (decode code 779 = .ok (.invokevirtual 74, 3)) ∧ (decode code 782 = .ok (.pop, 1)) ∧ (decode code 783 = .ok (.goto 698, 3)) := by decide +kernel
theorem dL_law_766 : decode code 766 = .ok (.iconst 3, 1) := dLq_766.1
theorem dL_law_767 : decode code 767 = .ok (.iadd, 1) := dLq_766.2.1
theorem dL_law_768 : decode code 768 = .ok (.iaload, 1) := dLq_766.2.2.1
theorem dL_law_769 : decode code 769 = .ok (.aload_n 0, 1) := dLq_766.2.2.2.1
theorem dL_law_770 : decode code 770 = .ok (.iload_n 3, 1) := dLq_766.2.2.2.2.1
theorem dL_law_771 : decode code 771 = .ok (.iconst 4, 1) := dLq_766.2.2.2.2.2.1
theorem dL_law_772 : decode code 772 = .ok (.iadd, 1) := dLq_766.2.2.2.2.2.2.1
theorem dL_law_773 : decode code 773 = .ok (.iaload, 1) := dLq_766.2.2.2.2.2.2.2.1
theorem dL_law_774 : decode code 774 = .ok (.aload_n 0, 1) := dLq_766.2.2.2.2.2.2.2.2.1
theorem dL_law_775 : decode code 775 = .ok (.iload_n 3, 1) := dLq_766.2.2.2.2.2.2.2.2.2.1
theorem dL_law_776 : decode code 776 = .ok (.iconst 5, 1) := dLq_766.2.2.2.2.2.2.2.2.2.2.1
theorem dL_law_777 : decode code 777 = .ok (.iadd, 1) := dLq_766.2.2.2.2.2.2.2.2.2.2.2.1
theorem dL_law_778 : decode code 778 = .ok (.iaload, 1) := dLq_766.2.2.2.2.2.2.2.2.2.2.2.2.1
theorem dL_law_779 : decode code 779 = .ok (.invokevirtual 74, 3) := dLq_766.2.2.2.2.2.2.2.2.2.2.2.2.2.1
theorem dL_law_782 : decode code 782 = .ok (.pop, 1) := dLq_766.2.2.2.2.2.2.2.2.2.2.2.2.2.2.1
theorem dL_law_783 : decode code 783 = .ok (.goto 698, 3) := dLq_766.2.2.2.2.2.2.2.2.2.2.2.2.2.2.2
theorem dLq_786 : (decode code 786 = .ok (.aload_n 1, 1)) ∧ (decode code 787 = .ok (.aload_n 0, 1)) ∧ (decode code 788 = .ok (.iload_n 3, 1)) ∧ (decode code 789 = .ok (.iconst 1, 1)) ∧ (decode code 790 = .ok (.iadd, 1)) ∧ (decode code 791 = .ok (.iaload, 1)) ∧ (decode code 792 = .ok (.invokevirtual 75, 3)) ∧ (decode code 795 = .ok (.pop, 1)) ∧ (decode code 796 = .ok (.aload_n 2, 1)) ∧ (decode code 797 = .ok (.aload_n 0, 1)) ∧ (decode code 798 = .ok (.iload_n 3, 1)) ∧ (decode code 799 = .ok (.iconst 1, 1)) ∧ (decode code 800 = .ok (.iadd, 1)) ∧ (decode code 801 = .ok (.iaload, 1)) ∧ (decode code 802 = .ok (.invokevirtual 79, 3)) ∧ (decode code 805 = .ok (.pop, 1)) := by decide +kernel
theorem dL_law_786 : decode code 786 = .ok (.aload_n 1, 1) := dLq_786.1
theorem dL_law_787 : decode code 787 = .ok (.aload_n 0, 1) := dLq_786.2.1
theorem dL_law_788 : decode code 788 = .ok (.iload_n 3, 1) := dLq_786.2.2.1
theorem dL_law_789 : decode code 789 = .ok (.iconst 1, 1) := dLq_786.2.2.2.1
theorem dL_law_790 : decode code 790 = .ok (.iadd, 1) := dLq_786.2.2.2.2.1
theorem dL_law_791 : decode code 791 = .ok (.iaload, 1) := dLq_786.2.2.2.2.2.1
theorem dL_law_792 : decode code 792 = .ok (.invokevirtual 75, 3) := dLq_786.2.2.2.2.2.2.1
theorem dL_law_795 : decode code 795 = .ok (.pop, 1) := dLq_786.2.2.2.2.2.2.2.1
theorem dL_law_796 : decode code 796 = .ok (.aload_n 2, 1) := dLq_786.2.2.2.2.2.2.2.2.1
theorem dL_law_797 : decode code 797 = .ok (.aload_n 0, 1) := dLq_786.2.2.2.2.2.2.2.2.2.1
theorem dL_law_798 : decode code 798 = .ok (.iload_n 3, 1) := dLq_786.2.2.2.2.2.2.2.2.2.2.1
theorem dL_law_799 : decode code 799 = .ok (.iconst 1, 1) := dLq_786.2.2.2.2.2.2.2.2.2.2.2.1
theorem dL_law_800 : decode code 800 = .ok (.iadd, 1) := dLq_786.2.2.2.2.2.2.2.2.2.2.2.2.1
theorem dL_law_801 : decode code 801 = .ok (.iaload, 1) := dLq_786.2.2.2.2.2.2.2.2.2.2.2.2.2.1
theorem dL_law_802 : decode code 802 = .ok (.invokevirtual 79, 3) := dLq_786.2.2.2.2.2.2.2.2.2.2.2.2.2.2.1
theorem dL_law_805 : decode code 805 = .ok (.pop, 1) := dLq_786.2.2.2.2.2.2.2.2.2.2.2.2.2.2.2
theorem dLq_806 : (decode code 806 = .ok (.goto 675, 3)) ∧ (decode code 809 = .ok (.aload_n 1, 1)) ∧ (decode code 810 = .ok (.invokevirtual 80, 3)) ∧ (decode code 813 = .ok (.pop, 1)) ∧ (decode code 814 = .ok (.aload_n 2, 1)) ∧ (decode code 815 = .ok (.invokevirtual 84, 3)) ∧ (decode code 818 = .ok (.pop, 1)) ∧ (decode code 819 = .ok (.goto 662, 3)) ∧ (decode code 822 = .ok (.aload_n 1, 1)) ∧ (decode code 823 = .ok (.aload_n 0, 1)) ∧ (decode code 824 = .ok (.iload_n 3, 1)) ∧ (decode code 825 = .ok (.iconst 1, 1)) ∧ (decode code 826 = .ok (.iadd, 1)) ∧ (decode code 827 = .ok (.iaload, 1)) ∧ (decode code 828 = .ok (.invokevirtual 85, 3)) ∧ (decode code 831 = .ok (.pop, 1)) := by decide +kernel
theorem dL_law_806 : decode code 806 = .ok (.goto 675, 3) := dLq_806.1
theorem dL_law_809 : decode code 809 = .ok (.aload_n 1, 1) := dLq_806.2.1
theorem dL_law_810 : decode code 810 = .ok (.invokevirtual 80, 3) := dLq_806.2.2.1
theorem dL_law_813 : decode code 813 = .ok (.pop, 1) := dLq_806.2.2.2.1
theorem dL_law_814 : decode code 814 = .ok (.aload_n 2, 1) := dLq_806.2.2.2.2.1
theorem dL_law_815 : decode code 815 = .ok (.invokevirtual 84, 3) := dLq_806.2.2.2.2.2.1
theorem dL_law_818 : decode code 818 = .ok (.pop, 1) := dLq_806.2.2.2.2.2.2.1
theorem dL_law_819 : decode code 819 = .ok (.goto 662, 3) := dLq_806.2.2.2.2.2.2.2.1
theorem dL_law_822 : decode code 822 = .ok (.aload_n 1, 1) := dLq_806.2.2.2.2.2.2.2.2.1
theorem dL_law_823 : decode code 823 = .ok (.aload_n 0, 1) := dLq_806.2.2.2.2.2.2.2.2.2.1
theorem dL_law_824 : decode code 824 = .ok (.iload_n 3, 1) := dLq_806.2.2.2.2.2.2.2.2.2.2.1
theorem dL_law_825 : decode code 825 = .ok (.iconst 1, 1) := dLq_806.2.2.2.2.2.2.2.2.2.2.2.1
theorem dL_law_826 : decode code 826 = .ok (.iadd, 1) := dLq_806.2.2.2.2.2.2.2.2.2.2.2.2.1
theorem dL_law_827 : decode code 827 = .ok (.iaload, 1) := dLq_806.2.2.2.2.2.2.2.2.2.2.2.2.2.1
theorem dL_law_828 : decode code 828 = .ok (.invokevirtual 85, 3) := dLq_806.2.2.2.2.2.2.2.2.2.2.2.2.2.2.1
theorem dL_law_831 : decode code 831 = .ok (.pop, 1) := dLq_806.2.2.2.2.2.2.2.2.2.2.2.2.2.2.2
theorem dLq_832 : (decode code 832 = .ok (.aload_n 2, 1)) ∧ (decode code 833 = .ok (.aload_n 0, 1)) ∧ (decode code 834 = .ok (.iload_n 3, 1)) ∧ (decode code 835 = .ok (.iconst 1, 1)) ∧ (decode code 836 = .ok (.iadd, 1)) ∧ (decode code 837 = .ok (.iaload, 1)) ∧ (decode code 838 = .ok (.invokevirtual 88, 3)) ∧ (decode code 841 = .ok (.pop, 1)) ∧ (decode code 842 = .ok (.goto 639, 3)) ∧ (decode code 845 = .ok (.aload_n 1, 1)) ∧ (decode code 846 = .ok (.aload_n 0, 1)) ∧ (decode code 847 = .ok (.iload_n 3, 1)) ∧ (decode code 848 = .ok (.iconst 1, 1)) ∧ (decode code 849 = .ok (.iadd, 1)) ∧ (decode code 850 = .ok (.iaload, 1)) ∧ (decode code 851 = .ok (.invokevirtual 89, 3)) := by decide +kernel
theorem dL_law_832 : decode code 832 = .ok (.aload_n 2, 1) := dLq_832.1
theorem dL_law_833 : decode code 833 = .ok (.aload_n 0, 1) := dLq_832.2.1
theorem dL_law_834 : decode code 834 = .ok (.iload_n 3, 1) := dLq_832.2.2.1
theorem dL_law_835 : decode code 835 = .ok (.iconst 1, 1) := dLq_832.2.2.2.1
theorem dL_law_836 : decode code 836 = .ok (.iadd, 1) := dLq_832.2.2.2.2.1
theorem dL_law_837 : decode code 837 = .ok (.iaload, 1) := dLq_832.2.2.2.2.2.1
theorem dL_law_838 : decode code 838 = .ok (.invokevirtual 88, 3) := dLq_832.2.2.2.2.2.2.1
theorem dL_law_841 : decode code 841 = .ok (.pop, 1) := dLq_832.2.2.2.2.2.2.2.1
theorem dL_law_842 : decode code 842 = .ok (.goto 639, 3) := dLq_832.2.2.2.2.2.2.2.2.1
theorem dL_law_845 : decode code 845 = .ok (.aload_n 1, 1) := dLq_832.2.2.2.2.2.2.2.2.2.1
theorem dL_law_846 : decode code 846 = .ok (.aload_n 0, 1) := dLq_832.2.2.2.2.2.2.2.2.2.2.1
theorem dL_law_847 : decode code 847 = .ok (.iload_n 3, 1) := dLq_832.2.2.2.2.2.2.2.2.2.2.2.1
theorem dL_law_848 : decode code 848 = .ok (.iconst 1, 1) := dLq_832.2.2.2.2.2.2.2.2.2.2.2.2.1
theorem dL_law_849 : decode code 849 = .ok (.iadd, 1) := dLq_832.2.2.2.2.2.2.2.2.2.2.2.2.2.1
theorem dL_law_850 : decode code 850 = .ok (.iaload, 1) := dLq_832.2.2.2.2.2.2.2.2.2.2.2.2.2.2.1
theorem dL_law_851 : decode code 851 = .ok (.invokevirtual 89, 3) := dLq_832.2.2.2.2.2.2.2.2.2.2.2.2.2.2.2
theorem dLq_854 : (decode code 854 = .ok (.pop, 1)) ∧ (decode code 855 = .ok (.aload_n 2, 1)) ∧ (decode code 856 = .ok (.aload_n 0, 1)) ∧ (decode code 857 = .ok (.iload_n 3, 1)) ∧ (decode code 858 = .ok (.iconst 1, 1)) ∧ (decode code 859 = .ok (.iadd, 1)) ∧ (decode code 860 = .ok (.iaload, 1)) ∧ (decode code 861 = .ok (.invokevirtual 92, 3)) ∧ (decode code 864 = .ok (.pop, 1)) ∧ (decode code 865 = .ok (.goto 616, 3)) ∧ (decode code 868 = .ok (.aload_n 1, 1)) ∧ (decode code 869 = .ok (.aload_n 0, 1)) ∧ (decode code 870 = .ok (.iload_n 3, 1)) ∧ (decode code 871 = .ok (.iconst 1, 1)) ∧ (decode code 872 = .ok (.iadd, 1)) ∧ (decode code 873 = .ok (.iaload, 1)) := by decide +kernel
theorem dL_law_854 : decode code 854 = .ok (.pop, 1) := dLq_854.1
theorem dL_law_855 : decode code 855 = .ok (.aload_n 2, 1) := dLq_854.2.1
theorem dL_law_856 : decode code 856 = .ok (.aload_n 0, 1) := dLq_854.2.2.1
theorem dL_law_857 : decode code 857 = .ok (.iload_n 3, 1) := dLq_854.2.2.2.1
theorem dL_law_858 : decode code 858 = .ok (.iconst 1, 1) := dLq_854.2.2.2.2.1
theorem dL_law_859 : decode code 859 = .ok (.iadd, 1) := dLq_854.2.2.2.2.2.1
theorem dL_law_860 : decode code 860 = .ok (.iaload, 1) := dLq_854.2.2.2.2.2.2.1
theorem dL_law_861 : decode code 861 = .ok (.invokevirtual 92, 3) := dLq_854.2.2.2.2.2.2.2.1
theorem dL_law_864 : decode code 864 = .ok (.pop, 1) := dLq_854.2.2.2.2.2.2.2.2.1
theorem dL_law_865 : decode code 865 = .ok (.goto 616, 3) := dLq_854.2.2.2.2.2.2.2.2.2.1
theorem dL_law_868 : decode code 868 = .ok (.aload_n 1, 1) := dLq_854.2.2.2.2.2.2.2.2.2.2.1
theorem dL_law_869 : decode code 869 = .ok (.aload_n 0, 1) := dLq_854.2.2.2.2.2.2.2.2.2.2.2.1
theorem dL_law_870 : decode code 870 = .ok (.iload_n 3, 1) := dLq_854.2.2.2.2.2.2.2.2.2.2.2.2.1
theorem dL_law_871 : decode code 871 = .ok (.iconst 1, 1) := dLq_854.2.2.2.2.2.2.2.2.2.2.2.2.2.1
theorem dL_law_872 : decode code 872 = .ok (.iadd, 1) := dLq_854.2.2.2.2.2.2.2.2.2.2.2.2.2.2.1
theorem dL_law_873 : decode code 873 = .ok (.iaload, 1) := dLq_854.2.2.2.2.2.2.2.2.2.2.2.2.2.2.2
theorem dLq_874 : (decode code 874 = .ok (.aload_n 0, 1)) ∧ (decode code 875 = .ok (.iload_n 3, 1)) ∧ (decode code 876 = .ok (.iconst 2, 1)) ∧ (decode code 877 = .ok (.iadd, 1)) ∧ (decode code 878 = .ok (.iaload, 1)) ∧ (decode code 879 = .ok (.aload_n 0, 1)) ∧ (decode code 880 = .ok (.iload_n 3, 1)) ∧ (decode code 881 = .ok (.iconst 3, 1)) ∧ (decode code 882 = .ok (.iadd, 1)) ∧ (decode code 883 = .ok (.iaload, 1)) ∧ (decode code 884 = .ok (.invokevirtual 93, 3)) ∧ (decode code 887 = .ok (.pop, 1)) ∧ (decode code 888 = .ok (.aload_n 2, 1)) ∧ (decode code 889 = .ok (.aload_n 0, 1)) ∧ (decode code 890 = .ok (.iload_n 3, 1)) ∧ (decode code 891 = .ok (.iconst 1, 1)) := by decide +kernel
theorem dL_law_874 : decode code 874 = .ok (.aload_n 0, 1) := dLq_874.1
theorem dL_law_875 : decode code 875 = .ok (.iload_n 3, 1) := dLq_874.2.1
theorem dL_law_876 : decode code 876 = .ok (.iconst 2, 1) := dLq_874.2.2.1
theorem dL_law_877 : decode code 877 = .ok (.iadd, 1) := dLq_874.2.2.2.1
theorem dL_law_878 : decode code 878 = .ok (.iaload, 1) := dLq_874.2.2.2.2.1
theorem dL_law_879 : decode code 879 = .ok (.aload_n 0, 1) := dLq_874.2.2.2.2.2.1
theorem dL_law_880 : decode code 880 = .ok (.iload_n 3, 1) := dLq_874.2.2.2.2.2.2.1
theorem dL_law_881 : decode code 881 = .ok (.iconst 3, 1) := dLq_874.2.2.2.2.2.2.2.1
theorem dL_law_882 : decode code 882 = .ok (.iadd, 1) := dLq_874.2.2.2.2.2.2.2.2.1
theorem dL_law_883 : decode code 883 = .ok (.iaload, 1) := dLq_874.2.2.2.2.2.2.2.2.2.1
theorem dL_law_884 : decode code 884 = .ok (.invokevirtual 93, 3) := dLq_874.2.2.2.2.2.2.2.2.2.2.1
theorem dL_law_887 : decode code 887 = .ok (.pop, 1) := dLq_874.2.2.2.2.2.2.2.2.2.2.2.1
theorem dL_law_888 : decode code 888 = .ok (.aload_n 2, 1) := dLq_874.2.2.2.2.2.2.2.2.2.2.2.2.1
theorem dL_law_889 : decode code 889 = .ok (.aload_n 0, 1) := dLq_874.2.2.2.2.2.2.2.2.2.2.2.2.2.1
theorem dL_law_890 : decode code 890 = .ok (.iload_n 3, 1) := dLq_874.2.2.2.2.2.2.2.2.2.2.2.2.2.2.1
theorem dL_law_891 : decode code 891 = .ok (.iconst 1, 1) := dLq_874.2.2.2.2.2.2.2.2.2.2.2.2.2.2.2
theorem dLq_892 : (decode code 892 = .ok (.iadd, 1)) ∧ (decode code 893 = .ok (.iaload, 1)) ∧ (decode code 894 = .ok (.aload_n 0, 1)) ∧ (decode code 895 = .ok (.iload_n 3, 1)) ∧ (decode code 896 = .ok (.iconst 2, 1)) ∧ (decode code 897 = .ok (.iadd, 1)) ∧ (decode code 898 = .ok (.iaload, 1)) ∧ (decode code 899 = .ok (.aload_n 0, 1)) ∧ (decode code 900 = .ok (.iload_n 3, 1)) ∧ (decode code 901 = .ok (.iconst 3, 1)) ∧ (decode code 902 = .ok (.iadd, 1)) ∧ (decode code 903 = .ok (.iaload, 1)) ∧ (decode code 904 = .ok (.invokevirtual 96, 3)) ∧ (decode code 907 = .ok (.pop, 1)) ∧ (decode code 908 = .ok (.goto 573, 3)) ∧ (decode code 911 = .ok (.aload_n 1, 1)) := by decide +kernel
theorem dL_law_892 : decode code 892 = .ok (.iadd, 1) := dLq_892.1
theorem dL_law_893 : decode code 893 = .ok (.iaload, 1) := dLq_892.2.1
theorem dL_law_894 : decode code 894 = .ok (.aload_n 0, 1) := dLq_892.2.2.1
theorem dL_law_895 : decode code 895 = .ok (.iload_n 3, 1) := dLq_892.2.2.2.1
theorem dL_law_896 : decode code 896 = .ok (.iconst 2, 1) := dLq_892.2.2.2.2.1
theorem dL_law_897 : decode code 897 = .ok (.iadd, 1) := dLq_892.2.2.2.2.2.1
theorem dL_law_898 : decode code 898 = .ok (.iaload, 1) := dLq_892.2.2.2.2.2.2.1
theorem dL_law_899 : decode code 899 = .ok (.aload_n 0, 1) := dLq_892.2.2.2.2.2.2.2.1
theorem dL_law_900 : decode code 900 = .ok (.iload_n 3, 1) := dLq_892.2.2.2.2.2.2.2.2.1
theorem dL_law_901 : decode code 901 = .ok (.iconst 3, 1) := dLq_892.2.2.2.2.2.2.2.2.2.1
theorem dL_law_902 : decode code 902 = .ok (.iadd, 1) := dLq_892.2.2.2.2.2.2.2.2.2.2.1
theorem dL_law_903 : decode code 903 = .ok (.iaload, 1) := dLq_892.2.2.2.2.2.2.2.2.2.2.2.1
theorem dL_law_904 : decode code 904 = .ok (.invokevirtual 96, 3) := dLq_892.2.2.2.2.2.2.2.2.2.2.2.2.1
theorem dL_law_907 : decode code 907 = .ok (.pop, 1) := dLq_892.2.2.2.2.2.2.2.2.2.2.2.2.2.1
theorem dL_law_908 : decode code 908 = .ok (.goto 573, 3) := dLq_892.2.2.2.2.2.2.2.2.2.2.2.2.2.2.1
theorem dL_law_911 : decode code 911 = .ok (.aload_n 1, 1) := dLq_892.2.2.2.2.2.2.2.2.2.2.2.2.2.2.2
theorem dLq_912 : (decode code 912 = .ok (.aload_n 0, 1)) ∧ (decode code 913 = .ok (.iload_n 3, 1)) ∧ (decode code 914 = .ok (.iconst 1, 1)) ∧ (decode code 915 = .ok (.iadd, 1)) ∧ (decode code 916 = .ok (.iaload, 1)) ∧ (decode code 917 = .ok (.aload_n 0, 1)) ∧ (decode code 918 = .ok (.iload_n 3, 1)) ∧ (decode code 919 = .ok (.iconst 2, 1)) ∧ (decode code 920 = .ok (.iadd, 1)) ∧ (decode code 921 = .ok (.iaload, 1)) ∧ (decode code 922 = .ok (.aload_n 0, 1)) ∧ (decode code 923 = .ok (.iload_n 3, 1)) ∧ (decode code 924 = .ok (.iconst 3, 1)) ∧ (decode code 925 = .ok (.iadd, 1)) ∧ (decode code 926 = .ok (.iaload, 1)) ∧ (decode code 927 = .ok (.aload_n 0, 1)) := by decide +kernel
theorem dL_law_912 : decode code 912 = .ok (.aload_n 0, 1) := dLq_912.1
theorem dL_law_913 : decode code 913 = .ok (.iload_n 3, 1) := dLq_912.2.1
theorem dL_law_914 : decode code 914 = .ok (.iconst 1, 1) := dLq_912.2.2.1
theorem dL_law_915 : decode code 915 = .ok (.iadd, 1) := dLq_912.2.2.2.1
theorem dL_law_916 : decode code 916 = .ok (.iaload, 1) := dLq_912.2.2.2.2.1
theorem dL_law_917 : decode code 917 = .ok (.aload_n 0, 1) := dLq_912.2.2.2.2.2.1
theorem dL_law_918 : decode code 918 = .ok (.iload_n 3, 1) := dLq_912.2.2.2.2.2.2.1
theorem dL_law_919 : decode code 919 = .ok (.iconst 2, 1) := dLq_912.2.2.2.2.2.2.2.1
theorem dL_law_920 : decode code 920 = .ok (.iadd, 1) := dLq_912.2.2.2.2.2.2.2.2.1
theorem dL_law_921 : decode code 921 = .ok (.iaload, 1) := dLq_912.2.2.2.2.2.2.2.2.2.1
theorem dL_law_922 : decode code 922 = .ok (.aload_n 0, 1) := dLq_912.2.2.2.2.2.2.2.2.2.2.1
theorem dL_law_923 : decode code 923 = .ok (.iload_n 3, 1) := dLq_912.2.2.2.2.2.2.2.2.2.2.2.1
theorem dL_law_924 : decode code 924 = .ok (.iconst 3, 1) := dLq_912.2.2.2.2.2.2.2.2.2.2.2.2.1
theorem dL_law_925 : decode code 925 = .ok (.iadd, 1) := dLq_912.2.2.2.2.2.2.2.2.2.2.2.2.2.1
theorem dL_law_926 : decode code 926 = .ok (.iaload, 1) := dLq_912.2.2.2.2.2.2.2.2.2.2.2.2.2.2.1
theorem dL_law_927 : decode code 927 = .ok (.aload_n 0, 1) := dLq_912.2.2.2.2.2.2.2.2.2.2.2.2.2.2.2
theorem dLq_928 : (decode code 928 = .ok (.iload_n 3, 1)) ∧ (decode code 929 = .ok (.iconst 4, 1)) ∧ (decode code 930 = .ok (.iadd, 1)) ∧ (decode code 931 = .ok (.iaload, 1)) ∧ (decode code 932 = .ok (.invokevirtual 97, 3)) ∧ (decode code 935 = .ok (.pop, 1)) ∧ (decode code 936 = .ok (.aload_n 2, 1)) ∧ (decode code 937 = .ok (.aload_n 0, 1)) ∧ (decode code 938 = .ok (.iload_n 3, 1)) ∧ (decode code 939 = .ok (.iconst 1, 1)) ∧ (decode code 940 = .ok (.iadd, 1)) ∧ (decode code 941 = .ok (.iaload, 1)) ∧ (decode code 942 = .ok (.aload_n 0, 1)) ∧ (decode code 943 = .ok (.iload_n 3, 1)) ∧ (decode code 944 = .ok (.iconst 2, 1)) ∧ (decode code 945 = .ok (.iadd, 1)) := by decide +kernel
theorem dL_law_928 : decode code 928 = .ok (.iload_n 3, 1) := dLq_928.1
theorem dL_law_929 : decode code 929 = .ok (.iconst 4, 1) := dLq_928.2.1
theorem dL_law_930 : decode code 930 = .ok (.iadd, 1) := dLq_928.2.2.1
theorem dL_law_931 : decode code 931 = .ok (.iaload, 1) := dLq_928.2.2.2.1
theorem dL_law_932 : decode code 932 = .ok (.invokevirtual 97, 3) := dLq_928.2.2.2.2.1
theorem dL_law_935 : decode code 935 = .ok (.pop, 1) := dLq_928.2.2.2.2.2.1
theorem dL_law_936 : decode code 936 = .ok (.aload_n 2, 1) := dLq_928.2.2.2.2.2.2.1
theorem dL_law_937 : decode code 937 = .ok (.aload_n 0, 1) := dLq_928.2.2.2.2.2.2.2.1
theorem dL_law_938 : decode code 938 = .ok (.iload_n 3, 1) := dLq_928.2.2.2.2.2.2.2.2.1
theorem dL_law_939 : decode code 939 = .ok (.iconst 1, 1) := dLq_928.2.2.2.2.2.2.2.2.2.1
theorem dL_law_940 : decode code 940 = .ok (.iadd, 1) := dLq_928.2.2.2.2.2.2.2.2.2.2.1
theorem dL_law_941 : decode code 941 = .ok (.iaload, 1) := dLq_928.2.2.2.2.2.2.2.2.2.2.2.1
theorem dL_law_942 : decode code 942 = .ok (.aload_n 0, 1) := dLq_928.2.2.2.2.2.2.2.2.2.2.2.2.1
theorem dL_law_943 : decode code 943 = .ok (.iload_n 3, 1) := dLq_928.2.2.2.2.2.2.2.2.2.2.2.2.2.1
theorem dL_law_944 : decode code 944 = .ok (.iconst 2, 1) := dLq_928.2.2.2.2.2.2.2.2.2.2.2.2.2.2.1
theorem dL_law_945 : decode code 945 = .ok (.iadd, 1) := dLq_928.2.2.2.2.2.2.2.2.2.2.2.2.2.2.2
theorem dLq_946 : (decode code 946 = .ok (.iaload, 1)) ∧ (decode code 947 = .ok (.aload_n 0, 1)) ∧ (decode code 948 = .ok (.iload_n 3, 1)) ∧ (decode code 949 = .ok (.iconst 3, 1)) ∧ (decode code 950 = .ok (.iadd, 1)) ∧ (decode code 951 = .ok (.iaload, 1)) ∧ (decode code 952 = .ok (.aload_n 0, 1)) ∧ (decode code 953 = .ok (.iload_n 3, 1)) ∧ (decode code 954 = .ok (.iconst 4, 1)) ∧ (decode code 955 = .ok (.iadd, 1)) ∧ (decode code 956 = .ok (.iaload, 1)) ∧ (decode code 957 = .ok (.invokevirtual 101, 3)) ∧ (decode code 960 = .ok (.pop, 1)) ∧ (decode code 961 = .ok (.goto 520, 3)) ∧ (decode code 964 = .ok (.aload_n 1, 1)) ∧ (decode code 965 = .ok (.aload_n 0, 1)) := by decide +kernel
theorem dL_law_946 : decode code 946 = .ok (.iaload, 1) := dLq_946.1
theorem dL_law_947 : decode code 947 = .ok (.aload_n 0, 1) := dLq_946.2.1
theorem dL_law_948 : decode code 948 = .ok (.iload_n 3, 1) := dLq_946.2.2.1
theorem dL_law_949 : decode code 949 = .ok (.iconst 3, 1) := dLq_946.2.2.2.1
theorem dL_law_950 : decode code 950 = .ok (.iadd, 1) := dLq_946.2.2.2.2.1
theorem dL_law_951 : decode code 951 = .ok (.iaload, 1) := dLq_946.2.2.2.2.2.1
theorem dL_law_952 : decode code 952 = .ok (.aload_n 0, 1) := dLq_946.2.2.2.2.2.2.1
theorem dL_law_953 : decode code 953 = .ok (.iload_n 3, 1) := dLq_946.2.2.2.2.2.2.2.1
theorem dL_law_954 : decode code 954 = .ok (.iconst 4, 1) := dLq_946.2.2.2.2.2.2.2.2.1
theorem dL_law_955 : decode code 955 = .ok (.iadd, 1) := dLq_946.2.2.2.2.2.2.2.2.2.1
theorem dL_law_956 : decode code 956 = .ok (.iaload, 1) := dLq_946.2.2.2.2.2.2.2.2.2.2.1
theorem dL_law_957 : decode code 957 = .ok (.invokevirtual 101, 3) := dLq_946.2.2.2.2.2.2.2.2.2.2.2.1
theorem dL_law_960 : decode code 960 = .ok (.pop, 1) := dLq_946.2.2.2.2.2.2.2.2.2.2.2.2.1
theorem dL_law_961 : decode code 961 = .ok (.goto 520, 3) := dLq_946.2.2.2.2.2.2.2.2.2.2.2.2.2.1
theorem dL_law_964 : decode code 964 = .ok (.aload_n 1, 1) := dLq_946.2.2.2.2.2.2.2.2.2.2.2.2.2.2.1
theorem dL_law_965 : decode code 965 = .ok (.aload_n 0, 1) := dLq_946.2.2.2.2.2.2.2.2.2.2.2.2.2.2.2
theorem dLq_966 : (decode code 966 = .ok (.iload_n 3, 1)) ∧ (decode code 967 = .ok (.iconst 1, 1)) ∧ (decode code 968 = .ok (.iadd, 1)) ∧ (decode code 969 = .ok (.iaload, 1)) ∧ (decode code 970 = .ok (.invokevirtual 102, 3)) ∧ (decode code 973 = .ok (.pop2, 1)) ∧ (decode code 974 = .ok (.aload_n 2, 1)) ∧ (decode code 975 = .ok (.aload_n 0, 1)) ∧ (decode code 976 = .ok (.iload_n 3, 1)) ∧ (decode code 977 = .ok (.iconst 1, 1)) ∧ (decode code 978 = .ok (.iadd, 1)) ∧ (decode code 979 = .ok (.iaload, 1)) ∧ (decode code 980 = .ok (.invokevirtual 106, 3)) ∧ (decode code 983 = .ok (.pop2, 1)) ∧ (decode code 984 = .ok (.goto 497, 3)) ∧ (decode code 987 = .ok (.aload_n 1, 1)) := by decide +kernel
theorem dL_law_966 : decode code 966 = .ok (.iload_n 3, 1) := dLq_966.1
theorem dL_law_967 : decode code 967 = .ok (.iconst 1, 1) := dLq_966.2.1
theorem dL_law_968 : decode code 968 = .ok (.iadd, 1) := dLq_966.2.2.1
theorem dL_law_969 : decode code 969 = .ok (.iaload, 1) := dLq_966.2.2.2.1
theorem dL_law_970 : decode code 970 = .ok (.invokevirtual 102, 3) := dLq_966.2.2.2.2.1
theorem dL_law_973 : decode code 973 = .ok (.pop2, 1) := dLq_966.2.2.2.2.2.1
theorem dL_law_974 : decode code 974 = .ok (.aload_n 2, 1) := dLq_966.2.2.2.2.2.2.1
theorem dL_law_975 : decode code 975 = .ok (.aload_n 0, 1) := dLq_966.2.2.2.2.2.2.2.1
theorem dL_law_976 : decode code 976 = .ok (.iload_n 3, 1) := dLq_966.2.2.2.2.2.2.2.2.1
theorem dL_law_977 : decode code 977 = .ok (.iconst 1, 1) := dLq_966.2.2.2.2.2.2.2.2.2.1
theorem dL_law_978 : decode code 978 = .ok (.iadd, 1) := dLq_966.2.2.2.2.2.2.2.2.2.2.1
theorem dL_law_979 : decode code 979 = .ok (.iaload, 1) := dLq_966.2.2.2.2.2.2.2.2.2.2.2.1
theorem dL_law_980 : decode code 980 = .ok (.invokevirtual 106, 3) := dLq_966.2.2.2.2.2.2.2.2.2.2.2.2.1
theorem dL_law_983 : decode code 983 = .ok (.pop2, 1) := dLq_966.2.2.2.2.2.2.2.2.2.2.2.2.2.1
theorem dL_law_984 : decode code 984 = .ok (.goto 497, 3) := dLq_966.2.2.2.2.2.2.2.2.2.2.2.2.2.2.1
theorem dL_law_987 : decode code 987 = .ok (.aload_n 1, 1) := dLq_966.2.2.2.2.2.2.2.2.2.2.2.2.2.2.2
theorem dLq_988 : (decode code 988 = .ok (.aload_n 0, 1)) ∧ (decode code 989 = .ok (.iload_n 3, 1)) ∧ (decode code 990 = .ok (.iconst 1, 1)) ∧ (decode code 991 = .ok (.iadd, 1)) ∧ (decode code 992 = .ok (.iaload, 1)) ∧ (decode code 993 = .ok (.aload_n 0, 1)) ∧ (decode code 994 = .ok (.iload_n 3, 1)) ∧ (decode code 995 = .ok (.iconst 2, 1)) ∧ (decode code 996 = .ok (.iadd, 1)) ∧ (decode code 997 = .ok (.iaload, 1)) ∧ (decode code 998 = .ok (.invokevirtual 107, 3)) ∧ (decode code 1001 = .ok (.pop, 1)) ∧ (decode code 1002 = .ok (.aload_n 2, 1)) ∧ (decode code 1003 = .ok (.aload_n 0, 1)) ∧ (decode code 1004 = .ok (.iload_n 3, 1)) ∧ (decode code 1005 = .ok (.iconst 1, 1)) := by decide +kernel
theorem dL_law_988 : decode code 988 = .ok (.aload_n 0, 1) := dLq_988.1
theorem dL_law_989 : decode code 989 = .ok (.iload_n 3, 1) := dLq_988.2.1
theorem dL_law_990 : decode code 990 = .ok (.iconst 1, 1) := dLq_988.2.2.1
theorem dL_law_991 : decode code 991 = .ok (.iadd, 1) := dLq_988.2.2.2.1
theorem dL_law_992 : decode code 992 = .ok (.iaload, 1) := dLq_988.2.2.2.2.1
theorem dL_law_993 : decode code 993 = .ok (.aload_n 0, 1) := dLq_988.2.2.2.2.2.1
theorem dL_law_994 : decode code 994 = .ok (.iload_n 3, 1) := dLq_988.2.2.2.2.2.2.1
theorem dL_law_995 : decode code 995 = .ok (.iconst 2, 1) := dLq_988.2.2.2.2.2.2.2.1
theorem dL_law_996 : decode code 996 = .ok (.iadd, 1) := dLq_988.2.2.2.2.2.2.2.2.1
theorem dL_law_997 : decode code 997 = .ok (.iaload, 1) := dLq_988.2.2.2.2.2.2.2.2.2.1
theorem dL_law_998 : decode code 998 = .ok (.invokevirtual 107, 3) := dLq_988.2.2.2.2.2.2.2.2.2.2.1
theorem dL_law_1001 : decode code 1001 = .ok (.pop, 1) := dLq_988.2.2.2.2.2.2.2.2.2.2.2.1
theorem dL_law_1002 : decode code 1002 = .ok (.aload_n 2, 1) := dLq_988.2.2.2.2.2.2.2.2.2.2.2.2.1
theorem dL_law_1003 : decode code 1003 = .ok (.aload_n 0, 1) := dLq_988.2.2.2.2.2.2.2.2.2.2.2.2.2.1
theorem dL_law_1004 : decode code 1004 = .ok (.iload_n 3, 1) := dLq_988.2.2.2.2.2.2.2.2.2.2.2.2.2.2.1
theorem dL_law_1005 : decode code 1005 = .ok (.iconst 1, 1) := dLq_988.2.2.2.2.2.2.2.2.2.2.2.2.2.2.2
theorem dLq_1006 : (decode code 1006 = .ok (.iadd, 1)) ∧ (decode code 1007 = .ok (.iaload, 1)) ∧ (decode code 1008 = .ok (.aload_n 0, 1)) ∧ (decode code 1009 = .ok (.iload_n 3, 1)) ∧ (decode code 1010 = .ok (.iconst 2, 1)) ∧ (decode code 1011 = .ok (.iadd, 1)) ∧ (decode code 1012 = .ok (.iaload, 1)) ∧ (decode code 1013 = .ok (.invokevirtual 111, 3)) ∧ (decode code 1016 = .ok (.pop, 1)) ∧ (decode code 1017 = .ok (.goto 464, 3)) ∧ (decode code 1020 = .ok (.aload_n 1, 1)) ∧ (decode code 1021 = .ok (.aload_n 0, 1)) ∧ (decode code 1022 = .ok (.iload_n 3, 1)) ∧ (decode code 1023 = .ok (.iconst 1, 1)) ∧ (decode code 1024 = .ok (.iadd, 1)) ∧ (decode code 1025 = .ok (.iaload, 1)) := by decide +kernel
theorem dL_law_1006 : decode code 1006 = .ok (.iadd, 1) := dLq_1006.1
theorem dL_law_1007 : decode code 1007 = .ok (.iaload, 1) := dLq_1006.2.1
theorem dL_law_1008 : decode code 1008 = .ok (.aload_n 0, 1) := dLq_1006.2.2.1
theorem dL_law_1009 : decode code 1009 = .ok (.iload_n 3, 1) := dLq_1006.2.2.2.1
theorem dL_law_1010 : decode code 1010 = .ok (.iconst 2, 1) := dLq_1006.2.2.2.2.1
theorem dL_law_1011 : decode code 1011 = .ok (.iadd, 1) := dLq_1006.2.2.2.2.2.1
theorem dL_law_1012 : decode code 1012 = .ok (.iaload, 1) := dLq_1006.2.2.2.2.2.2.1
theorem dL_law_1013 : decode code 1013 = .ok (.invokevirtual 111, 3) := dLq_1006.2.2.2.2.2.2.2.1
theorem dL_law_1016 : decode code 1016 = .ok (.pop, 1) := dLq_1006.2.2.2.2.2.2.2.2.1
theorem dL_law_1017 : decode code 1017 = .ok (.goto 464, 3) := dLq_1006.2.2.2.2.2.2.2.2.2.1
theorem dL_law_1020 : decode code 1020 = .ok (.aload_n 1, 1) := dLq_1006.2.2.2.2.2.2.2.2.2.2.1
theorem dL_law_1021 : decode code 1021 = .ok (.aload_n 0, 1) := dLq_1006.2.2.2.2.2.2.2.2.2.2.2.1
theorem dL_law_1022 : decode code 1022 = .ok (.iload_n 3, 1) := dLq_1006.2.2.2.2.2.2.2.2.2.2.2.2.1
theorem dL_law_1023 : decode code 1023 = .ok (.iconst 1, 1) := dLq_1006.2.2.2.2.2.2.2.2.2.2.2.2.2.1
theorem dL_law_1024 : decode code 1024 = .ok (.iadd, 1) := dLq_1006.2.2.2.2.2.2.2.2.2.2.2.2.2.2.1
theorem dL_law_1025 : decode code 1025 = .ok (.iaload, 1) := dLq_1006.2.2.2.2.2.2.2.2.2.2.2.2.2.2.2
theorem dLq_1026 : (decode code 1026 = .ok (.aload_n 0, 1)) ∧ (decode code 1027 = .ok (.iload_n 3, 1)) ∧ (decode code 1028 = .ok (.iconst 2, 1)) ∧ (decode code 1029 = .ok (.iadd, 1)) ∧ (decode code 1030 = .ok (.iaload, 1)) ∧ (decode code 1031 = .ok (.invokevirtual 112, 3)) ∧ (decode code 1034 = .ok (.pop, 1)) ∧ (decode code 1035 = .ok (.aload_n 2, 1)) ∧ (decode code 1036 = .ok (.aload_n 0, 1)) ∧ (decode code 1037 = .ok (.iload_n 3, 1)) ∧ (decode code 1038 = .ok (.iconst 1, 1)) ∧ (decode code 1039 = .ok (.iadd, 1)) ∧ (decode code 1040 = .ok (.iaload, 1)) ∧ (decode code 1041 = .ok (.aload_n 0, 1)) ∧ (decode code 1042 = .ok (.iload_n 3, 1)) ∧ (decode code 1043 = .ok (.iconst 2, 1)) := by decide +kernel
theorem dL_law_1026 : decode code 1026 = .ok (.aload_n 0, 1) := dLq_1026.1
theorem dL_law_1027 : decode code 1027 = .ok (.iload_n 3, 1) := dLq_1026.2.1
theorem dL_law_1028 : decode code 1028 = .ok (.iconst 2, 1) := dLq_1026.2.2.1
theorem dL_law_1029 : decode code 1029 = .ok (.iadd, 1) := dLq_1026.2.2.2.1
theorem dL_law_1030 : decode code 1030 = .ok (.iaload, 1) := dLq_1026.2.2.2.2.1
theorem dL_law_1031 : decode code 1031 = .ok (.invokevirtual 112, 3) := dLq_1026.2.2.2.2.2.1
theorem dL_law_1034 : decode code 1034 = .ok (.pop, 1) := dLq_1026.2.2.2.2.2.2.1
theorem dL_law_1035 : decode code 1035 = .ok (.aload_n 2, 1) := dLq_1026.2.2.2.2.2.2.2.1
theorem dL_law_1036 : decode code 1036 = .ok (.aload_n 0, 1) := dLq_1026.2.2.2.2.2.2.2.2.1
theorem dL_law_1037 : decode code 1037 = .ok (.iload_n 3, 1) := dLq_1026.2.2.2.2.2.2.2.2.2.1
theorem dL_law_1038 : decode code 1038 = .ok (.iconst 1, 1) := dLq_1026.2.2.2.2.2.2.2.2.2.2.1
theorem dL_law_1039 : decode code 1039 = .ok (.iadd, 1) := dLq_1026.2.2.2.2.2.2.2.2.2.2.2.1
theorem dL_law_1040 : decode code 1040 = .ok (.iaload, 1) := dLq_1026.2.2.2.2.2.2.2.2.2.2.2.2.1
theorem dL_law_1041 : decode code 1041 = .ok (.aload_n 0, 1) := dLq_1026.2.2.2.2.2.2.2.2.2.2.2.2.2.1
theorem dL_law_1042 : decode code 1042 = .ok (.iload_n 3, 1) := dLq_1026.2.2.2.2.2.2.2.2.2.2.2.2.2.2.1
theorem dL_law_1043 : decode code 1043 = .ok (.iconst 2, 1) := dLq_1026.2.2.2.2.2.2.2.2.2.2.2.2.2.2.2
theorem dLq_1044 : (decode code 1044 = .ok (.iadd, 1)) ∧ (decode code 1045 = .ok (.iaload, 1)) ∧ (decode code 1046 = .ok (.invokevirtual 115, 3)) ∧ (decode code 1049 = .ok (.pop, 1)) ∧ (decode code 1050 = .ok (.goto 431, 3)) ∧ (decode code 1053 = .ok (.aload_n 1, 1)) ∧ (decode code 1054 = .ok (.aload_n 0, 1)) ∧ (decode code 1055 = .ok (.iload_n 3, 1)) ∧ (decode code 1056 = .ok (.iconst 1, 1)) ∧ (decode code 1057 = .ok (.iadd, 1)) ∧ (decode code 1058 = .ok (.iaload, 1)) ∧ (decode code 1059 = .ok (.aload_n 0, 1)) ∧ (decode code 1060 = .ok (.iload_n 3, 1)) ∧ (decode code 1061 = .ok (.iconst 2, 1)) ∧ (decode code 1062 = .ok (.iadd, 1)) ∧ (decode code 1063 = .ok (.iaload, 1)) := by decide +kernel
theorem dL_law_1044 : decode code 1044 = .ok (.iadd, 1) := dLq_1044.1
theorem dL_law_1045 : decode code 1045 = .ok (.iaload, 1) := dLq_1044.2.1
theorem dL_law_1046 : decode code 1046 = .ok (.invokevirtual 115, 3) := dLq_1044.2.2.1
theorem dL_law_1049 : decode code 1049 = .ok (.pop, 1) := dLq_1044.2.2.2.1
theorem dL_law_1050 : decode code 1050 = .ok (.goto 431, 3) := dLq_1044.2.2.2.2.1
theorem dL_law_1053 : decode code 1053 = .ok (.aload_n 1, 1) := dLq_1044.2.2.2.2.2.1
theorem dL_law_1054 : decode code 1054 = .ok (.aload_n 0, 1) := dLq_1044.2.2.2.2.2.2.1
theorem dL_law_1055 : decode code 1055 = .ok (.iload_n 3, 1) := dLq_1044.2.2.2.2.2.2.2.1
theorem dL_law_1056 : decode code 1056 = .ok (.iconst 1, 1) := dLq_1044.2.2.2.2.2.2.2.2.1
theorem dL_law_1057 : decode code 1057 = .ok (.iadd, 1) := dLq_1044.2.2.2.2.2.2.2.2.2.1
theorem dL_law_1058 : decode code 1058 = .ok (.iaload, 1) := dLq_1044.2.2.2.2.2.2.2.2.2.2.1
theorem dL_law_1059 : decode code 1059 = .ok (.aload_n 0, 1) := dLq_1044.2.2.2.2.2.2.2.2.2.2.2.1
theorem dL_law_1060 : decode code 1060 = .ok (.iload_n 3, 1) := dLq_1044.2.2.2.2.2.2.2.2.2.2.2.2.1
theorem dL_law_1061 : decode code 1061 = .ok (.iconst 2, 1) := dLq_1044.2.2.2.2.2.2.2.2.2.2.2.2.2.1
theorem dL_law_1062 : decode code 1062 = .ok (.iadd, 1) := dLq_1044.2.2.2.2.2.2.2.2.2.2.2.2.2.2.1
theorem dL_law_1063 : decode code 1063 = .ok (.iaload, 1) := dLq_1044.2.2.2.2.2.2.2.2.2.2.2.2.2.2.2
theorem dLq_1064 : (decode code 1064 = .ok (.invokevirtual 116, 3)) ∧ (decode code 1067 = .ok (.pop, 1)) ∧ (decode code 1068 = .ok (.aload_n 2, 1)) ∧ (decode code 1069 = .ok (.aload_n 0, 1)) ∧ (decode code 1070 = .ok (.iload_n 3, 1)) ∧ (decode code 1071 = .ok (.iconst 1, 1)) ∧ (decode code 1072 = .ok (.iadd, 1)) ∧ (decode code 1073 = .ok (.iaload, 1)) ∧ (decode code 1074 = .ok (.aload_n 0, 1)) ∧ (decode code 1075 = .ok (.iload_n 3, 1)) ∧ (decode code 1076 = .ok (.iconst 2, 1)) ∧ (decode code 1077 = .ok (.iadd, 1)) ∧ (decode code 1078 = .ok (.iaload, 1)) ∧ (decode code 1079 = .ok (.invokevirtual 119, 3)) ∧ (decode code 1082 = .ok (.pop, 1)) ∧ (decode code 1083 = .ok (.goto 398, 3)) := by decide +kernel
theorem dL_law_1064 : decode code 1064 = .ok (.invokevirtual 116, 3) := dLq_1064.1
theorem dL_law_1067 : decode code 1067 = .ok (.pop, 1) := dLq_1064.2.1
theorem dL_law_1068 : decode code 1068 = .ok (.aload_n 2, 1) := dLq_1064.2.2.1
theorem dL_law_1069 : decode code 1069 = .ok (.aload_n 0, 1) := dLq_1064.2.2.2.1
theorem dL_law_1070 : decode code 1070 = .ok (.iload_n 3, 1) := dLq_1064.2.2.2.2.1
theorem dL_law_1071 : decode code 1071 = .ok (.iconst 1, 1) := dLq_1064.2.2.2.2.2.1
theorem dL_law_1072 : decode code 1072 = .ok (.iadd, 1) := dLq_1064.2.2.2.2.2.2.1
theorem dL_law_1073 : decode code 1073 = .ok (.iaload, 1) := dLq_1064.2.2.2.2.2.2.2.1
theorem dL_law_1074 : decode code 1074 = .ok (.aload_n 0, 1) := dLq_1064.2.2.2.2.2.2.2.2.1
theorem dL_law_1075 : decode code 1075 = .ok (.iload_n 3, 1) := dLq_1064.2.2.2.2.2.2.2.2.2.1
theorem dL_law_1076 : decode code 1076 = .ok (.iconst 2, 1) := dLq_1064.2.2.2.2.2.2.2.2.2.2.1
theorem dL_law_1077 : decode code 1077 = .ok (.iadd, 1) := dLq_1064.2.2.2.2.2.2.2.2.2.2.2.1
theorem dL_law_1078 : decode code 1078 = .ok (.iaload, 1) := dLq_1064.2.2.2.2.2.2.2.2.2.2.2.2.1
theorem dL_law_1079 : decode code 1079 = .ok (.invokevirtual 119, 3) := dLq_1064.2.2.2.2.2.2.2.2.2.2.2.2.2.1
theorem dL_law_1082 : decode code 1082 = .ok (.pop, 1) := dLq_1064.2.2.2.2.2.2.2.2.2.2.2.2.2.2.1
theorem dL_law_1083 : decode code 1083 = .ok (.goto 398, 3) := dLq_1064.2.2.2.2.2.2.2.2.2.2.2.2.2.2.2
theorem dLq_1086 : (decode code 1086 = .ok (.aload_n 1, 1)) ∧ (decode code 1087 = .ok (.aload_n 0, 1)) ∧ (decode code 1088 = .ok (.iload_n 3, 1)) ∧ (decode code 1089 = .ok (.iconst 1, 1)) ∧ (decode code 1090 = .ok (.iadd, 1)) ∧ (decode code 1091 = .ok (.iaload, 1)) ∧ (decode code 1092 = .ok (.aload_n 0, 1)) ∧ (decode code 1093 = .ok (.iload_n 3, 1)) ∧ (decode code 1094 = .ok (.iconst 2, 1)) ∧ (decode code 1095 = .ok (.iadd, 1)) ∧ (decode code 1096 = .ok (.iaload, 1)) ∧ (decode code 1097 = .ok (.invokevirtual 120, 3)) ∧ (decode code 1100 = .ok (.pop, 1)) ∧ (decode code 1101 = .ok (.aload_n 2, 1)) ∧ (decode code 1102 = .ok (.aload_n 0, 1)) ∧ (decode code 1103 = .ok (.iload_n 3, 1)) := by decide +kernel
theorem dL_law_1086 : decode code 1086 = .ok (.aload_n 1, 1) := dLq_1086.1
theorem dL_law_1087 : decode code 1087 = .ok (.aload_n 0, 1) := dLq_1086.2.1
theorem dL_law_1088 : decode code 1088 = .ok (.iload_n 3, 1) := dLq_1086.2.2.1
theorem dL_law_1089 : decode code 1089 = .ok (.iconst 1, 1) := dLq_1086.2.2.2.1
theorem dL_law_1090 : decode code 1090 = .ok (.iadd, 1) := dLq_1086.2.2.2.2.1
theorem dL_law_1091 : decode code 1091 = .ok (.iaload, 1) := dLq_1086.2.2.2.2.2.1
theorem dL_law_1092 : decode code 1092 = .ok (.aload_n 0, 1) := dLq_1086.2.2.2.2.2.2.1
theorem dL_law_1093 : decode code 1093 = .ok (.iload_n 3, 1) := dLq_1086.2.2.2.2.2.2.2.1
theorem dL_law_1094 : decode code 1094 = .ok (.iconst 2, 1) := dLq_1086.2.2.2.2.2.2.2.2.1
theorem dL_law_1095 : decode code 1095 = .ok (.iadd, 1) := dLq_1086.2.2.2.2.2.2.2.2.2.1
theorem dL_law_1096 : decode code 1096 = .ok (.iaload, 1) := dLq_1086.2.2.2.2.2.2.2.2.2.2.1
theorem dL_law_1097 : decode code 1097 = .ok (.invokevirtual 120, 3) := dLq_1086.2.2.2.2.2.2.2.2.2.2.2.1
theorem dL_law_1100 : decode code 1100 = .ok (.pop, 1) := dLq_1086.2.2.2.2.2.2.2.2.2.2.2.2.1
theorem dL_law_1101 : decode code 1101 = .ok (.aload_n 2, 1) := dLq_1086.2.2.2.2.2.2.2.2.2.2.2.2.2.1
theorem dL_law_1102 : decode code 1102 = .ok (.aload_n 0, 1) := dLq_1086.2.2.2.2.2.2.2.2.2.2.2.2.2.2.1
theorem dL_law_1103 : decode code 1103 = .ok (.iload_n 3, 1) := dLq_1086.2.2.2.2.2.2.2.2.2.2.2.2.2.2.2
theorem dLq_1104 : (decode code 1104 = .ok (.iconst 1, 1)) ∧ (decode code 1105 = .ok (.iadd, 1)) ∧ (decode code 1106 = .ok (.iaload, 1)) ∧ (decode code 1107 = .ok (.aload_n 0, 1)) ∧ (decode code 1108 = .ok (.iload_n 3, 1)) ∧ (decode code 1109 = .ok (.iconst 2, 1)) ∧ (decode code 1110 = .ok (.iadd, 1)) ∧ (decode code 1111 = .ok (.iaload, 1)) ∧ (decode code 1112 = .ok (.invokevirtual 123, 3)) ∧ (decode code 1115 = .ok (.pop, 1)) ∧ (decode code 1116 = .ok (.goto 365, 3)) ∧ (decode code 1119 = .ok (.aload_n 1, 1)) ∧ (decode code 1120 = .ok (.aload_n 0, 1)) ∧ (decode code 1121 = .ok (.iload_n 3, 1)) ∧ (decode code 1122 = .ok (.iconst 1, 1)) ∧ (decode code 1123 = .ok (.iadd, 1)) := by decide +kernel
theorem dL_law_1104 : decode code 1104 = .ok (.iconst 1, 1) := dLq_1104.1
theorem dL_law_1105 : decode code 1105 = .ok (.iadd, 1) := dLq_1104.2.1
theorem dL_law_1106 : decode code 1106 = .ok (.iaload, 1) := dLq_1104.2.2.1
theorem dL_law_1107 : decode code 1107 = .ok (.aload_n 0, 1) := dLq_1104.2.2.2.1
theorem dL_law_1108 : decode code 1108 = .ok (.iload_n 3, 1) := dLq_1104.2.2.2.2.1
theorem dL_law_1109 : decode code 1109 = .ok (.iconst 2, 1) := dLq_1104.2.2.2.2.2.1
theorem dL_law_1110 : decode code 1110 = .ok (.iadd, 1) := dLq_1104.2.2.2.2.2.2.1
theorem dL_law_1111 : decode code 1111 = .ok (.iaload, 1) := dLq_1104.2.2.2.2.2.2.2.1
theorem dL_law_1112 : decode code 1112 = .ok (.invokevirtual 123, 3) := dLq_1104.2.2.2.2.2.2.2.2.1
theorem dL_law_1115 : decode code 1115 = .ok (.pop, 1) := dLq_1104.2.2.2.2.2.2.2.2.2.1
theorem dL_law_1116 : decode code 1116 = .ok (.goto 365, 3) := dLq_1104.2.2.2.2.2.2.2.2.2.2.1
theorem dL_law_1119 : decode code 1119 = .ok (.aload_n 1, 1) := dLq_1104.2.2.2.2.2.2.2.2.2.2.2.1
theorem dL_law_1120 : decode code 1120 = .ok (.aload_n 0, 1) := dLq_1104.2.2.2.2.2.2.2.2.2.2.2.2.1
theorem dL_law_1121 : decode code 1121 = .ok (.iload_n 3, 1) := dLq_1104.2.2.2.2.2.2.2.2.2.2.2.2.2.1
theorem dL_law_1122 : decode code 1122 = .ok (.iconst 1, 1) := dLq_1104.2.2.2.2.2.2.2.2.2.2.2.2.2.2.1
theorem dL_law_1123 : decode code 1123 = .ok (.iadd, 1) := dLq_1104.2.2.2.2.2.2.2.2.2.2.2.2.2.2.2
theorem dLq_1124 : (decode code 1124 = .ok (.iaload, 1)) ∧ (decode code 1125 = .ok (.aload_n 0, 1)) ∧ (decode code 1126 = .ok (.iload_n 3, 1)) ∧ (decode code 1127 = .ok (.iconst 2, 1)) ∧ (decode code 1128 = .ok (.iadd, 1)) ∧ (decode code 1129 = .ok (.iaload, 1)) ∧ (decode code 1130 = .ok (.invokevirtual 124, 3)) ∧ (decode code 1133 = .ok (.pop2, 1)) ∧ (decode code 1134 = .ok (.aload_n 2, 1)) ∧ (decode code 1135 = .ok (.aload_n 0, 1)) ∧ (decode code 1136 = .ok (.iload_n 3, 1)) ∧ (decode code 1137 = .ok (.iconst 1, 1)) ∧ (decode code 1138 = .ok (.iadd, 1)) ∧ (decode code 1139 = .ok (.iaload, 1)) ∧ (decode code 1140 = .ok (.aload_n 0, 1)) ∧ (decode code 1141 = .ok (.iload_n 3, 1)) := by decide +kernel
theorem dL_law_1124 : decode code 1124 = .ok (.iaload, 1) := dLq_1124.1
theorem dL_law_1125 : decode code 1125 = .ok (.aload_n 0, 1) := dLq_1124.2.1
theorem dL_law_1126 : decode code 1126 = .ok (.iload_n 3, 1) := dLq_1124.2.2.1
theorem dL_law_1127 : decode code 1127 = .ok (.iconst 2, 1) := dLq_1124.2.2.2.1
theorem dL_law_1128 : decode code 1128 = .ok (.iadd, 1) := dLq_1124.2.2.2.2.1
theorem dL_law_1129 : decode code 1129 = .ok (.iaload, 1) := dLq_1124.2.2.2.2.2.1
theorem dL_law_1130 : decode code 1130 = .ok (.invokevirtual 124, 3) := dLq_1124.2.2.2.2.2.2.1
theorem dL_law_1133 : decode code 1133 = .ok (.pop2, 1) := dLq_1124.2.2.2.2.2.2.2.1
theorem dL_law_1134 : decode code 1134 = .ok (.aload_n 2, 1) := dLq_1124.2.2.2.2.2.2.2.2.1
theorem dL_law_1135 : decode code 1135 = .ok (.aload_n 0, 1) := dLq_1124.2.2.2.2.2.2.2.2.2.1
theorem dL_law_1136 : decode code 1136 = .ok (.iload_n 3, 1) := dLq_1124.2.2.2.2.2.2.2.2.2.2.1
theorem dL_law_1137 : decode code 1137 = .ok (.iconst 1, 1) := dLq_1124.2.2.2.2.2.2.2.2.2.2.2.1
theorem dL_law_1138 : decode code 1138 = .ok (.iadd, 1) := dLq_1124.2.2.2.2.2.2.2.2.2.2.2.2.1
theorem dL_law_1139 : decode code 1139 = .ok (.iaload, 1) := dLq_1124.2.2.2.2.2.2.2.2.2.2.2.2.2.1
theorem dL_law_1140 : decode code 1140 = .ok (.aload_n 0, 1) := dLq_1124.2.2.2.2.2.2.2.2.2.2.2.2.2.2.1
theorem dL_law_1141 : decode code 1141 = .ok (.iload_n 3, 1) := dLq_1124.2.2.2.2.2.2.2.2.2.2.2.2.2.2.2
theorem dLq_1142 : (decode code 1142 = .ok (.iconst 2, 1)) ∧ (decode code 1143 = .ok (.iadd, 1)) ∧ (decode code 1144 = .ok (.iaload, 1)) ∧ (decode code 1145 = .ok (.invokevirtual 128, 3)) ∧ (decode code 1148 = .ok (.pop2, 1)) ∧ (decode code 1149 = .ok (.goto 332, 3)) ∧ (decode code 1152 = .ok (.aload_n 1, 1)) ∧ (decode code 1153 = .ok (.aload_n 0, 1)) ∧ (decode code 1154 = .ok (.iload_n 3, 1)) ∧ (decode code 1155 = .ok (.iconst 1, 1)) ∧ (decode code 1156 = .ok (.iadd, 1)) ∧ (decode code 1157 = .ok (.iaload, 1)) ∧ (decode code 1158 = .ok (.invokevirtual 129, 3)) ∧ (decode code 1161 = .ok (.pop, 1)) ∧ (decode code 1162 = .ok (.aload_n 2, 1)) ∧ (decode code 1163 = .ok (.aload_n 0, 1)) := by decide +kernel
theorem dL_law_1142 : decode code 1142 = .ok (.iconst 2, 1) := dLq_1142.1
theorem dL_law_1143 : decode code 1143 = .ok (.iadd, 1) := dLq_1142.2.1
theorem dL_law_1144 : decode code 1144 = .ok (.iaload, 1) := dLq_1142.2.2.1
theorem dL_law_1145 : decode code 1145 = .ok (.invokevirtual 128, 3) := dLq_1142.2.2.2.1
theorem dL_law_1148 : decode code 1148 = .ok (.pop2, 1) := dLq_1142.2.2.2.2.1
theorem dL_law_1149 : decode code 1149 = .ok (.goto 332, 3) := dLq_1142.2.2.2.2.2.1
theorem dL_law_1152 : decode code 1152 = .ok (.aload_n 1, 1) := dLq_1142.2.2.2.2.2.2.1
theorem dL_law_1153 : decode code 1153 = .ok (.aload_n 0, 1) := dLq_1142.2.2.2.2.2.2.2.1
theorem dL_law_1154 : decode code 1154 = .ok (.iload_n 3, 1) := dLq_1142.2.2.2.2.2.2.2.2.1
theorem dL_law_1155 : decode code 1155 = .ok (.iconst 1, 1) := dLq_1142.2.2.2.2.2.2.2.2.2.1
theorem dL_law_1156 : decode code 1156 = .ok (.iadd, 1) := dLq_1142.2.2.2.2.2.2.2.2.2.2.1
theorem dL_law_1157 : decode code 1157 = .ok (.iaload, 1) := dLq_1142.2.2.2.2.2.2.2.2.2.2.2.1
theorem dL_law_1158 : decode code 1158 = .ok (.invokevirtual 129, 3) := dLq_1142.2.2.2.2.2.2.2.2.2.2.2.2.1
theorem dL_law_1161 : decode code 1161 = .ok (.pop, 1) := dLq_1142.2.2.2.2.2.2.2.2.2.2.2.2.2.1
theorem dL_law_1162 : decode code 1162 = .ok (.aload_n 2, 1) := dLq_1142.2.2.2.2.2.2.2.2.2.2.2.2.2.2.1
theorem dL_law_1163 : decode code 1163 = .ok (.aload_n 0, 1) := dLq_1142.2.2.2.2.2.2.2.2.2.2.2.2.2.2.2
theorem dLq_1164 : (decode code 1164 = .ok (.iload_n 3, 1)) ∧ (decode code 1165 = .ok (.iconst 1, 1)) ∧ (decode code 1166 = .ok (.iadd, 1)) ∧ (decode code 1167 = .ok (.iaload, 1)) ∧ (decode code 1168 = .ok (.invokevirtual 132, 3)) ∧ (decode code 1171 = .ok (.pop, 1)) ∧ (decode code 1172 = .ok (.goto 309, 3)) ∧ (decode code 1175 = .ok (.aload_n 1, 1)) ∧ (decode code 1176 = .ok (.aload_n 0, 1)) ∧ (decode code 1177 = .ok (.iload_n 3, 1)) ∧ (decode code 1178 = .ok (.iconst 1, 1)) ∧ (decode code 1179 = .ok (.iadd, 1)) ∧ (decode code 1180 = .ok (.iaload, 1)) ∧ (decode code 1181 = .ok (.aload_n 0, 1)) ∧ (decode code 1182 = .ok (.iload_n 3, 1)) ∧ (decode code 1183 = .ok (.iconst 2, 1)) := by decide +kernel
theorem dL_law_1164 : decode code 1164 = .ok (.iload_n 3, 1) := dLq_1164.1
theorem dL_law_1165 : decode code 1165 = .ok (.iconst 1, 1) := dLq_1164.2.1
theorem dL_law_1166 : decode code 1166 = .ok (.iadd, 1) := dLq_1164.2.2.1
theorem dL_law_1167 : decode code 1167 = .ok (.iaload, 1) := dLq_1164.2.2.2.1
theorem dL_law_1168 : decode code 1168 = .ok (.invokevirtual 132, 3) := dLq_1164.2.2.2.2.1
theorem dL_law_1171 : decode code 1171 = .ok (.pop, 1) := dLq_1164.2.2.2.2.2.1
theorem dL_law_1172 : decode code 1172 = .ok (.goto 309, 3) := dLq_1164.2.2.2.2.2.2.1
theorem dL_law_1175 : decode code 1175 = .ok (.aload_n 1, 1) := dLq_1164.2.2.2.2.2.2.2.1
theorem dL_law_1176 : decode code 1176 = .ok (.aload_n 0, 1) := dLq_1164.2.2.2.2.2.2.2.2.1
theorem dL_law_1177 : decode code 1177 = .ok (.iload_n 3, 1) := dLq_1164.2.2.2.2.2.2.2.2.2.1
theorem dL_law_1178 : decode code 1178 = .ok (.iconst 1, 1) := dLq_1164.2.2.2.2.2.2.2.2.2.2.1
theorem dL_law_1179 : decode code 1179 = .ok (.iadd, 1) := dLq_1164.2.2.2.2.2.2.2.2.2.2.2.1
theorem dL_law_1180 : decode code 1180 = .ok (.iaload, 1) := dLq_1164.2.2.2.2.2.2.2.2.2.2.2.2.1
theorem dL_law_1181 : decode code 1181 = .ok (.aload_n 0, 1) := dLq_1164.2.2.2.2.2.2.2.2.2.2.2.2.2.1
theorem dL_law_1182 : decode code 1182 = .ok (.iload_n 3, 1) := dLq_1164.2.2.2.2.2.2.2.2.2.2.2.2.2.2.1
theorem dL_law_1183 : decode code 1183 = .ok (.iconst 2, 1) := dLq_1164.2.2.2.2.2.2.2.2.2.2.2.2.2.2.2
theorem dLq_1184 : (decode code 1184 = .ok (.iadd, 1)) ∧ (decode code 1185 = .ok (.iaload, 1)) ∧ (decode code 1186 = .ok (.aload_n 0, 1)) ∧ (decode code 1187 = .ok (.iload_n 3, 1)) ∧ (decode code 1188 = .ok (.iconst 3, 1)) ∧ (decode code 1189 = .ok (.iadd, 1)) ∧ (decode code 1190 = .ok (.iaload, 1)) ∧ (decode code 1191 = .ok (.invokevirtual 133, 3)) ∧ (decode code 1194 = .ok (.pop, 1)) ∧ (decode code 1195 = .ok (.aload_n 2, 1)) ∧ (decode code 1196 = .ok (.aload_n 0, 1)) ∧ (decode code 1197 = .ok (.iload_n 3, 1)) ∧ (decode code 1198 = .ok (.iconst 1, 1)) ∧ (decode code 1199 = .ok (.iadd, 1)) ∧ (decode code 1200 = .ok (.iaload, 1)) ∧ (decode code 1201 = .ok (.aload_n 0, 1)) := by decide +kernel
theorem dL_law_1184 : decode code 1184 = .ok (.iadd, 1) := dLq_1184.1
theorem dL_law_1185 : decode code 1185 = .ok (.iaload, 1) := dLq_1184.2.1
theorem dL_law_1186 : decode code 1186 = .ok (.aload_n 0, 1) := dLq_1184.2.2.1
theorem dL_law_1187 : decode code 1187 = .ok (.iload_n 3, 1) := dLq_1184.2.2.2.1
theorem dL_law_1188 : decode code 1188 = .ok (.iconst 3, 1) := dLq_1184.2.2.2.2.1
theorem dL_law_1189 : decode code 1189 = .ok (.iadd, 1) := dLq_1184.2.2.2.2.2.1
theorem dL_law_1190 : decode code 1190 = .ok (.iaload, 1) := dLq_1184.2.2.2.2.2.2.1
theorem dL_law_1191 : decode code 1191 = .ok (.invokevirtual 133, 3) := dLq_1184.2.2.2.2.2.2.2.1
theorem dL_law_1194 : decode code 1194 = .ok (.pop, 1) := dLq_1184.2.2.2.2.2.2.2.2.1
theorem dL_law_1195 : decode code 1195 = .ok (.aload_n 2, 1) := dLq_1184.2.2.2.2.2.2.2.2.2.1
theorem dL_law_1196 : decode code 1196 = .ok (.aload_n 0, 1) := dLq_1184.2.2.2.2.2.2.2.2.2.2.1
theorem dL_law_1197 : decode code 1197 = .ok (.iload_n 3, 1) := dLq_1184.2.2.2.2.2.2.2.2.2.2.2.1
theorem dL_law_1198 : decode code 1198 = .ok (.iconst 1, 1) := dLq_1184.2.2.2.2.2.2.2.2.2.2.2.2.1
theorem dL_law_1199 : decode code 1199 = .ok (.iadd, 1) := dLq_1184.2.2.2.2.2.2.2.2.2.2.2.2.2.1
theorem dL_law_1200 : decode code 1200 = .ok (.iaload, 1) := dLq_1184.2.2.2.2.2.2.2.2.2.2.2.2.2.2.1
theorem dL_law_1201 : decode code 1201 = .ok (.aload_n 0, 1) := dLq_1184.2.2.2.2.2.2.2.2.2.2.2.2.2.2.2
theorem dLq_1202 : (decode code 1202 = .ok (.iload_n 3, 1)) ∧ (decode code 1203 = .ok (.iconst 2, 1)) ∧ (decode code 1204 = .ok (.iadd, 1)) ∧ (decode code 1205 = .ok (.iaload, 1)) ∧ (decode code 1206 = .ok (.aload_n 0, 1)) ∧ (decode code 1207 = .ok (.iload_n 3, 1)) ∧ (decode code 1208 = .ok (.iconst 3, 1)) ∧ (decode code 1209 = .ok (.iadd, 1)) ∧ (decode code 1210 = .ok (.iaload, 1)) ∧ (decode code 1211 = .ok (.invokevirtual 136, 3)) ∧ (decode code 1214 = .ok (.pop, 1)) ∧ (decode code 1215 = .ok (.goto 266, 3)) ∧ (decode code 1218 = .ok (.aload_n 1, 1)) ∧ (decode code 1219 = .ok (.aload_n 0, 1)) ∧ (decode code 1220 = .ok (.iload_n 3, 1)) ∧ (decode code 1221 = .ok (.iconst 1, 1)) := by decide +kernel
theorem dL_law_1202 : decode code 1202 = .ok (.iload_n 3, 1) := dLq_1202.1
theorem dL_law_1203 : decode code 1203 = .ok (.iconst 2, 1) := dLq_1202.2.1
theorem dL_law_1204 : decode code 1204 = .ok (.iadd, 1) := dLq_1202.2.2.1
theorem dL_law_1205 : decode code 1205 = .ok (.iaload, 1) := dLq_1202.2.2.2.1
theorem dL_law_1206 : decode code 1206 = .ok (.aload_n 0, 1) := dLq_1202.2.2.2.2.1
theorem dL_law_1207 : decode code 1207 = .ok (.iload_n 3, 1) := dLq_1202.2.2.2.2.2.1
theorem dL_law_1208 : decode code 1208 = .ok (.iconst 3, 1) := dLq_1202.2.2.2.2.2.2.1
theorem dL_law_1209 : decode code 1209 = .ok (.iadd, 1) := dLq_1202.2.2.2.2.2.2.2.1
theorem dL_law_1210 : decode code 1210 = .ok (.iaload, 1) := dLq_1202.2.2.2.2.2.2.2.2.1
theorem dL_law_1211 : decode code 1211 = .ok (.invokevirtual 136, 3) := dLq_1202.2.2.2.2.2.2.2.2.2.1
theorem dL_law_1214 : decode code 1214 = .ok (.pop, 1) := dLq_1202.2.2.2.2.2.2.2.2.2.2.1
theorem dL_law_1215 : decode code 1215 = .ok (.goto 266, 3) := dLq_1202.2.2.2.2.2.2.2.2.2.2.2.1
theorem dL_law_1218 : decode code 1218 = .ok (.aload_n 1, 1) := dLq_1202.2.2.2.2.2.2.2.2.2.2.2.2.1
theorem dL_law_1219 : decode code 1219 = .ok (.aload_n 0, 1) := dLq_1202.2.2.2.2.2.2.2.2.2.2.2.2.2.1
theorem dL_law_1220 : decode code 1220 = .ok (.iload_n 3, 1) := dLq_1202.2.2.2.2.2.2.2.2.2.2.2.2.2.2.1
theorem dL_law_1221 : decode code 1221 = .ok (.iconst 1, 1) := dLq_1202.2.2.2.2.2.2.2.2.2.2.2.2.2.2.2
theorem dLq_1222 : (decode code 1222 = .ok (.iadd, 1)) ∧ (decode code 1223 = .ok (.iaload, 1)) ∧ (decode code 1224 = .ok (.aload_n 0, 1)) ∧ (decode code 1225 = .ok (.iload_n 3, 1)) ∧ (decode code 1226 = .ok (.iconst 2, 1)) ∧ (decode code 1227 = .ok (.iadd, 1)) ∧ (decode code 1228 = .ok (.iaload, 1)) ∧ (decode code 1229 = .ok (.invokevirtual 137, 3)) ∧ (decode code 1232 = .ok (.pop, 1)) ∧ (decode code 1233 = .ok (.aload_n 2, 1)) ∧ (decode code 1234 = .ok (.aload_n 0, 1)) ∧ (decode code 1235 = .ok (.iload_n 3, 1)) ∧ (decode code 1236 = .ok (.iconst 1, 1)) ∧ (decode code 1237 = .ok (.iadd, 1)) ∧ (decode code 1238 = .ok (.iaload, 1)) ∧ (decode code 1239 = .ok (.aload_n 0, 1)) := by decide +kernel
theorem dL_law_1222 : decode code 1222 = .ok (.iadd, 1) := dLq_1222.1
theorem dL_law_1223 : decode code 1223 = .ok (.iaload, 1) := dLq_1222.2.1
theorem dL_law_1224 : decode code 1224 = .ok (.aload_n 0, 1) := dLq_1222.2.2.1
theorem dL_law_1225 : decode code 1225 = .ok (.iload_n 3, 1) := dLq_1222.2.2.2.1
theorem dL_law_1226 : decode code 1226 = .ok (.iconst 2, 1) := dLq_1222.2.2.2.2.1
theorem dL_law_1227 : decode code 1227 = .ok (.iadd, 1) := dLq_1222.2.2.2.2.2.1
theorem dL_law_1228 : decode code 1228 = .ok (.iaload, 1) := dLq_1222.2.2.2.2.2.2.1
theorem dL_law_1229 : decode code 1229 = .ok (.invokevirtual 137, 3) := dLq_1222.2.2.2.2.2.2.2.1
theorem dL_law_1232 : decode code 1232 = .ok (.pop, 1) := dLq_1222.2.2.2.2.2.2.2.2.1
theorem dL_law_1233 : decode code 1233 = .ok (.aload_n 2, 1) := dLq_1222.2.2.2.2.2.2.2.2.2.1
theorem dL_law_1234 : decode code 1234 = .ok (.aload_n 0, 1) := dLq_1222.2.2.2.2.2.2.2.2.2.2.1
theorem dL_law_1235 : decode code 1235 = .ok (.iload_n 3, 1) := dLq_1222.2.2.2.2.2.2.2.2.2.2.2.1
theorem dL_law_1236 : decode code 1236 = .ok (.iconst 1, 1) := dLq_1222.2.2.2.2.2.2.2.2.2.2.2.2.1
theorem dL_law_1237 : decode code 1237 = .ok (.iadd, 1) := dLq_1222.2.2.2.2.2.2.2.2.2.2.2.2.2.1
theorem dL_law_1238 : decode code 1238 = .ok (.iaload, 1) := dLq_1222.2.2.2.2.2.2.2.2.2.2.2.2.2.2.1
theorem dL_law_1239 : decode code 1239 = .ok (.aload_n 0, 1) := dLq_1222.2.2.2.2.2.2.2.2.2.2.2.2.2.2.2
theorem dLq_1240 : (decode code 1240 = .ok (.iload_n 3, 1)) ∧ (decode code 1241 = .ok (.iconst 2, 1)) ∧ (decode code 1242 = .ok (.iadd, 1)) ∧ (decode code 1243 = .ok (.iaload, 1)) ∧ (decode code 1244 = .ok (.invokevirtual 140, 3)) ∧ (decode code 1247 = .ok (.pop, 1)) ∧ (decode code 1248 = .ok (.goto 233, 3)) ∧ (decode code 1251 = .ok (.aload_n 1, 1)) ∧ (decode code 1252 = .ok (.aload_n 0, 1)) ∧ (decode code 1253 = .ok (.iload_n 3, 1)) ∧ (decode code 1254 = .ok (.iconst 1, 1)) ∧ (decode code 1255 = .ok (.iadd, 1)) ∧ (decode code 1256 = .ok (.iaload, 1)) ∧ (decode code 1257 = .ok (.aload_n 0, 1)) ∧ (decode code 1258 = .ok (.iload_n 3, 1)) ∧ (decode code 1259 = .ok (.iconst 2, 1)) := by decide +kernel
theorem dL_law_1240 : decode code 1240 = .ok (.iload_n 3, 1) := dLq_1240.1
theorem dL_law_1241 : decode code 1241 = .ok (.iconst 2, 1) := dLq_1240.2.1
theorem dL_law_1242 : decode code 1242 = .ok (.iadd, 1) := dLq_1240.2.2.1
theorem dL_law_1243 : decode code 1243 = .ok (.iaload, 1) := dLq_1240.2.2.2.1
theorem dL_law_1244 : decode code 1244 = .ok (.invokevirtual 140, 3) := dLq_1240.2.2.2.2.1
theorem dL_law_1247 : decode code 1247 = .ok (.pop, 1) := dLq_1240.2.2.2.2.2.1
theorem dL_law_1248 : decode code 1248 = .ok (.goto 233, 3) := dLq_1240.2.2.2.2.2.2.1
theorem dL_law_1251 : decode code 1251 = .ok (.aload_n 1, 1) := dLq_1240.2.2.2.2.2.2.2.1
theorem dL_law_1252 : decode code 1252 = .ok (.aload_n 0, 1) := dLq_1240.2.2.2.2.2.2.2.2.1
theorem dL_law_1253 : decode code 1253 = .ok (.iload_n 3, 1) := dLq_1240.2.2.2.2.2.2.2.2.2.1
theorem dL_law_1254 : decode code 1254 = .ok (.iconst 1, 1) := dLq_1240.2.2.2.2.2.2.2.2.2.2.1
theorem dL_law_1255 : decode code 1255 = .ok (.iadd, 1) := dLq_1240.2.2.2.2.2.2.2.2.2.2.2.1
theorem dL_law_1256 : decode code 1256 = .ok (.iaload, 1) := dLq_1240.2.2.2.2.2.2.2.2.2.2.2.2.1
theorem dL_law_1257 : decode code 1257 = .ok (.aload_n 0, 1) := dLq_1240.2.2.2.2.2.2.2.2.2.2.2.2.2.1
theorem dL_law_1258 : decode code 1258 = .ok (.iload_n 3, 1) := dLq_1240.2.2.2.2.2.2.2.2.2.2.2.2.2.2.1
theorem dL_law_1259 : decode code 1259 = .ok (.iconst 2, 1) := dLq_1240.2.2.2.2.2.2.2.2.2.2.2.2.2.2.2
theorem dLq_1260 : (decode code 1260 = .ok (.iadd, 1)) ∧ (decode code 1261 = .ok (.iaload, 1)) ∧ (decode code 1262 = .ok (.aload_n 0, 1)) ∧ (decode code 1263 = .ok (.iload_n 3, 1)) ∧ (decode code 1264 = .ok (.iconst 3, 1)) ∧ (decode code 1265 = .ok (.iadd, 1)) ∧ (decode code 1266 = .ok (.iaload, 1)) ∧ (decode code 1267 = .ok (.ifCond .eq 7, 3)) ∧ (decode code 1270 = .ok (.iconst 1, 1)) ∧ (decode code 1271 = .ok (.goto 4, 3)) ∧ (decode code 1274 = .ok (.iconst 0, 1)) ∧ (decode code 1275 = .ok (.invokevirtual 141, 3)) ∧ (decode code 1278 = .ok (.pop, 1)) ∧ (decode code 1279 = .ok (.aload_n 2, 1)) ∧ (decode code 1280 = .ok (.aload_n 0, 1)) ∧ (decode code 1281 = .ok (.iload_n 3, 1)) := by decide +kernel
theorem dL_law_1260 : decode code 1260 = .ok (.iadd, 1) := dLq_1260.1
theorem dL_law_1261 : decode code 1261 = .ok (.iaload, 1) := dLq_1260.2.1
theorem dL_law_1262 : decode code 1262 = .ok (.aload_n 0, 1) := dLq_1260.2.2.1
theorem dL_law_1263 : decode code 1263 = .ok (.iload_n 3, 1) := dLq_1260.2.2.2.1
theorem dL_law_1264 : decode code 1264 = .ok (.iconst 3, 1) := dLq_1260.2.2.2.2.1
theorem dL_law_1265 : decode code 1265 = .ok (.iadd, 1) := dLq_1260.2.2.2.2.2.1
theorem dL_law_1266 : decode code 1266 = .ok (.iaload, 1) := dLq_1260.2.2.2.2.2.2.1
theorem dL_law_1267 : decode code 1267 = .ok (.ifCond .eq 7, 3) := dLq_1260.2.2.2.2.2.2.2.1
theorem dL_law_1270 : decode code 1270 = .ok (.iconst 1, 1) := dLq_1260.2.2.2.2.2.2.2.2.1
theorem dL_law_1271 : decode code 1271 = .ok (.goto 4, 3) := dLq_1260.2.2.2.2.2.2.2.2.2.1
theorem dL_law_1274 : decode code 1274 = .ok (.iconst 0, 1) := dLq_1260.2.2.2.2.2.2.2.2.2.2.1
theorem dL_law_1275 : decode code 1275 = .ok (.invokevirtual 141, 3) := dLq_1260.2.2.2.2.2.2.2.2.2.2.2.1
theorem dL_law_1278 : decode code 1278 = .ok (.pop, 1) := dLq_1260.2.2.2.2.2.2.2.2.2.2.2.2.1
theorem dL_law_1279 : decode code 1279 = .ok (.aload_n 2, 1) := dLq_1260.2.2.2.2.2.2.2.2.2.2.2.2.2.1
theorem dL_law_1280 : decode code 1280 = .ok (.aload_n 0, 1) := dLq_1260.2.2.2.2.2.2.2.2.2.2.2.2.2.2.1
theorem dL_law_1281 : decode code 1281 = .ok (.iload_n 3, 1) := dLq_1260.2.2.2.2.2.2.2.2.2.2.2.2.2.2.2
theorem dLq_1282 : (decode code 1282 = .ok (.iconst 1, 1)) ∧ (decode code 1283 = .ok (.iadd, 1)) ∧ (decode code 1284 = .ok (.iaload, 1)) ∧ (decode code 1285 = .ok (.aload_n 0, 1)) ∧ (decode code 1286 = .ok (.iload_n 3, 1)) ∧ (decode code 1287 = .ok (.iconst 2, 1)) ∧ (decode code 1288 = .ok (.iadd, 1)) ∧ (decode code 1289 = .ok (.iaload, 1)) ∧ (decode code 1290 = .ok (.aload_n 0, 1)) ∧ (decode code 1291 = .ok (.iload_n 3, 1)) ∧ (decode code 1292 = .ok (.iconst 3, 1)) ∧ (decode code 1293 = .ok (.iadd, 1)) ∧ (decode code 1294 = .ok (.iaload, 1)) ∧ (decode code 1295 = .ok (.ifCond .eq 7, 3)) ∧ (decode code 1298 = .ok (.iconst 1, 1)) ∧ (decode code 1299 = .ok (.goto 4, 3)) := by decide +kernel
theorem dL_law_1282 : decode code 1282 = .ok (.iconst 1, 1) := dLq_1282.1
theorem dL_law_1283 : decode code 1283 = .ok (.iadd, 1) := dLq_1282.2.1
theorem dL_law_1284 : decode code 1284 = .ok (.iaload, 1) := dLq_1282.2.2.1
theorem dL_law_1285 : decode code 1285 = .ok (.aload_n 0, 1) := dLq_1282.2.2.2.1
theorem dL_law_1286 : decode code 1286 = .ok (.iload_n 3, 1) := dLq_1282.2.2.2.2.1
theorem dL_law_1287 : decode code 1287 = .ok (.iconst 2, 1) := dLq_1282.2.2.2.2.2.1
theorem dL_law_1288 : decode code 1288 = .ok (.iadd, 1) := dLq_1282.2.2.2.2.2.2.1
theorem dL_law_1289 : decode code 1289 = .ok (.iaload, 1) := dLq_1282.2.2.2.2.2.2.2.1
theorem dL_law_1290 : decode code 1290 = .ok (.aload_n 0, 1) := dLq_1282.2.2.2.2.2.2.2.2.1
theorem dL_law_1291 : decode code 1291 = .ok (.iload_n 3, 1) := dLq_1282.2.2.2.2.2.2.2.2.2.1
theorem dL_law_1292 : decode code 1292 = .ok (.iconst 3, 1) := dLq_1282.2.2.2.2.2.2.2.2.2.2.1
theorem dL_law_1293 : decode code 1293 = .ok (.iadd, 1) := dLq_1282.2.2.2.2.2.2.2.2.2.2.2.1
theorem dL_law_1294 : decode code 1294 = .ok (.iaload, 1) := dLq_1282.2.2.2.2.2.2.2.2.2.2.2.2.1
theorem dL_law_1295 : decode code 1295 = .ok (.ifCond .eq 7, 3) := dLq_1282.2.2.2.2.2.2.2.2.2.2.2.2.2.1
theorem dL_law_1298 : decode code 1298 = .ok (.iconst 1, 1) := dLq_1282.2.2.2.2.2.2.2.2.2.2.2.2.2.2.1
theorem dL_law_1299 : decode code 1299 = .ok (.goto 4, 3) := dLq_1282.2.2.2.2.2.2.2.2.2.2.2.2.2.2.2
theorem dLq_1302 : (decode code 1302 = .ok (.iconst 0, 1)) ∧ (decode code 1303 = .ok (.invokevirtual 145, 3)) ∧ (decode code 1306 = .ok (.pop, 1)) ∧ (decode code 1307 = .ok (.goto 174, 3)) ∧ (decode code 1310 = .ok (.aload_n 1, 1)) ∧ (decode code 1311 = .ok (.aload_n 0, 1)) ∧ (decode code 1312 = .ok (.iload_n 3, 1)) ∧ (decode code 1313 = .ok (.iconst 1, 1)) ∧ (decode code 1314 = .ok (.iadd, 1)) ∧ (decode code 1315 = .ok (.iaload, 1)) ∧ (decode code 1316 = .ok (.aload_n 0, 1)) ∧ (decode code 1317 = .ok (.iload_n 3, 1)) ∧ (decode code 1318 = .ok (.iconst 2, 1)) ∧ (decode code 1319 = .ok (.iadd, 1)) ∧ (decode code 1320 = .ok (.iaload, 1)) ∧ (decode code 1321 = .ok (.aload_n 0, 1)) := by decide +kernel
theorem dL_law_1302 : decode code 1302 = .ok (.iconst 0, 1) := dLq_1302.1
theorem dL_law_1303 : decode code 1303 = .ok (.invokevirtual 145, 3) := dLq_1302.2.1
theorem dL_law_1306 : decode code 1306 = .ok (.pop, 1) := dLq_1302.2.2.1
theorem dL_law_1307 : decode code 1307 = .ok (.goto 174, 3) := dLq_1302.2.2.2.1
theorem dL_law_1310 : decode code 1310 = .ok (.aload_n 1, 1) := dLq_1302.2.2.2.2.1
theorem dL_law_1311 : decode code 1311 = .ok (.aload_n 0, 1) := dLq_1302.2.2.2.2.2.1
theorem dL_law_1312 : decode code 1312 = .ok (.iload_n 3, 1) := dLq_1302.2.2.2.2.2.2.1
theorem dL_law_1313 : decode code 1313 = .ok (.iconst 1, 1) := dLq_1302.2.2.2.2.2.2.2.1
theorem dL_law_1314 : decode code 1314 = .ok (.iadd, 1) := dLq_1302.2.2.2.2.2.2.2.2.1
theorem dL_law_1315 : decode code 1315 = .ok (.iaload, 1) := dLq_1302.2.2.2.2.2.2.2.2.2.1
theorem dL_law_1316 : decode code 1316 = .ok (.aload_n 0, 1) := dLq_1302.2.2.2.2.2.2.2.2.2.2.1
theorem dL_law_1317 : decode code 1317 = .ok (.iload_n 3, 1) := dLq_1302.2.2.2.2.2.2.2.2.2.2.2.1
theorem dL_law_1318 : decode code 1318 = .ok (.iconst 2, 1) := dLq_1302.2.2.2.2.2.2.2.2.2.2.2.2.1
theorem dL_law_1319 : decode code 1319 = .ok (.iadd, 1) := dLq_1302.2.2.2.2.2.2.2.2.2.2.2.2.2.1
theorem dL_law_1320 : decode code 1320 = .ok (.iaload, 1) := dLq_1302.2.2.2.2.2.2.2.2.2.2.2.2.2.2.1
theorem dL_law_1321 : decode code 1321 = .ok (.aload_n 0, 1) := dLq_1302.2.2.2.2.2.2.2.2.2.2.2.2.2.2.2
theorem dLq_1322 : (decode code 1322 = .ok (.iload_n 3, 1)) ∧ (decode code 1323 = .ok (.iconst 3, 1)) ∧ (decode code 1324 = .ok (.iadd, 1)) ∧ (decode code 1325 = .ok (.iaload, 1)) ∧ (decode code 1326 = .ok (.invokevirtual 146, 3)) ∧ (decode code 1329 = .ok (.pop, 1)) ∧ (decode code 1330 = .ok (.aload_n 2, 1)) ∧ (decode code 1331 = .ok (.aload_n 0, 1)) ∧ (decode code 1332 = .ok (.iload_n 3, 1)) ∧ (decode code 1333 = .ok (.iconst 1, 1)) ∧ (decode code 1334 = .ok (.iadd, 1)) ∧ (decode code 1335 = .ok (.iaload, 1)) ∧ (decode code 1336 = .ok (.aload_n 0, 1)) ∧ (decode code 1337 = .ok (.iload_n 3, 1)) ∧ (decode code 1338 = .ok (.iconst 2, 1)) ∧ (decode code 1339 = .ok (.iadd, 1)) := by decide +kernel
theorem dL_law_1322 : decode code 1322 = .ok (.iload_n 3, 1) := dLq_1322.1
theorem dL_law_1323 : decode code 1323 = .ok (.iconst 3, 1) := dLq_1322.2.1
theorem dL_law_1324 : decode code 1324 = .ok (.iadd, 1) := dLq_1322.2.2.1
theorem dL_law_1325 : decode code 1325 = .ok (.iaload, 1) := dLq_1322.2.2.2.1
theorem dL_law_1326 : decode code 1326 = .ok (.invokevirtual 146, 3) := dLq_1322.2.2.2.2.1
theorem dL_law_1329 : decode code 1329 = .ok (.pop, 1) := dLq_1322.2.2.2.2.2.1
theorem dL_law_1330 : decode code 1330 = .ok (.aload_n 2, 1) := dLq_1322.2.2.2.2.2.2.1
theorem dL_law_1331 : decode code 1331 = .ok (.aload_n 0, 1) := dLq_1322.2.2.2.2.2.2.2.1
theorem dL_law_1332 : decode code 1332 = .ok (.iload_n 3, 1) := dLq_1322.2.2.2.2.2.2.2.2.1
theorem dL_law_1333 : decode code 1333 = .ok (.iconst 1, 1) := dLq_1322.2.2.2.2.2.2.2.2.2.1
theorem dL_law_1334 : decode code 1334 = .ok (.iadd, 1) := dLq_1322.2.2.2.2.2.2.2.2.2.2.1
theorem dL_law_1335 : decode code 1335 = .ok (.iaload, 1) := dLq_1322.2.2.2.2.2.2.2.2.2.2.2.1
theorem dL_law_1336 : decode code 1336 = .ok (.aload_n 0, 1) := dLq_1322.2.2.2.2.2.2.2.2.2.2.2.2.1
theorem dL_law_1337 : decode code 1337 = .ok (.iload_n 3, 1) := dLq_1322.2.2.2.2.2.2.2.2.2.2.2.2.2.1
theorem dL_law_1338 : decode code 1338 = .ok (.iconst 2, 1) := dLq_1322.2.2.2.2.2.2.2.2.2.2.2.2.2.2.1
theorem dL_law_1339 : decode code 1339 = .ok (.iadd, 1) := dLq_1322.2.2.2.2.2.2.2.2.2.2.2.2.2.2.2
theorem dLq_1340 : (decode code 1340 = .ok (.iaload, 1)) ∧ (decode code 1341 = .ok (.aload_n 0, 1)) ∧ (decode code 1342 = .ok (.iload_n 3, 1)) ∧ (decode code 1343 = .ok (.iconst 3, 1)) ∧ (decode code 1344 = .ok (.iadd, 1)) ∧ (decode code 1345 = .ok (.iaload, 1)) ∧ (decode code 1346 = .ok (.invokevirtual 149, 3)) ∧ (decode code 1349 = .ok (.pop, 1)) ∧ (decode code 1350 = .ok (.goto 131, 3)) ∧ (decode code 1353 = .ok (.aload_n 1, 1)) ∧ (decode code 1354 = .ok (.aload_n 0, 1)) ∧ (decode code 1355 = .ok (.iload_n 3, 1)) ∧ (decode code 1356 = .ok (.iconst 1, 1)) ∧ (decode code 1357 = .ok (.iadd, 1)) ∧ (decode code 1358 = .ok (.iaload, 1)) ∧ (decode code 1359 = .ok (.aload_n 0, 1)) := by decide +kernel
theorem dL_law_1340 : decode code 1340 = .ok (.iaload, 1) := dLq_1340.1
theorem dL_law_1341 : decode code 1341 = .ok (.aload_n 0, 1) := dLq_1340.2.1
theorem dL_law_1342 : decode code 1342 = .ok (.iload_n 3, 1) := dLq_1340.2.2.1
theorem dL_law_1343 : decode code 1343 = .ok (.iconst 3, 1) := dLq_1340.2.2.2.1
theorem dL_law_1344 : decode code 1344 = .ok (.iadd, 1) := dLq_1340.2.2.2.2.1
theorem dL_law_1345 : decode code 1345 = .ok (.iaload, 1) := dLq_1340.2.2.2.2.2.1
theorem dL_law_1346 : decode code 1346 = .ok (.invokevirtual 149, 3) := dLq_1340.2.2.2.2.2.2.1
theorem dL_law_1349 : decode code 1349 = .ok (.pop, 1) := dLq_1340.2.2.2.2.2.2.2.1
theorem dL_law_1350 : decode code 1350 = .ok (.goto 131, 3) := dLq_1340.2.2.2.2.2.2.2.2.1
theorem dL_law_1353 : decode code 1353 = .ok (.aload_n 1, 1) := dLq_1340.2.2.2.2.2.2.2.2.2.1
theorem dL_law_1354 : decode code 1354 = .ok (.aload_n 0, 1) := dLq_1340.2.2.2.2.2.2.2.2.2.2.1
theorem dL_law_1355 : decode code 1355 = .ok (.iload_n 3, 1) := dLq_1340.2.2.2.2.2.2.2.2.2.2.2.1
theorem dL_law_1356 : decode code 1356 = .ok (.iconst 1, 1) := dLq_1340.2.2.2.2.2.2.2.2.2.2.2.2.1
theorem dL_law_1357 : decode code 1357 = .ok (.iadd, 1) := dLq_1340.2.2.2.2.2.2.2.2.2.2.2.2.2.1
theorem dL_law_1358 : decode code 1358 = .ok (.iaload, 1) := dLq_1340.2.2.2.2.2.2.2.2.2.2.2.2.2.2.1
theorem dL_law_1359 : decode code 1359 = .ok (.aload_n 0, 1) := dLq_1340.2.2.2.2.2.2.2.2.2.2.2.2.2.2.2
theorem dLq_1360 : (decode code 1360 = .ok (.iload_n 3, 1)) ∧ (decode code 1361 = .ok (.iconst 2, 1)) ∧ (decode code 1362 = .ok (.iadd, 1)) ∧ (decode code 1363 = .ok (.iaload, 1)) ∧ (decode code 1364 = .ok (.invokevirtual 150, 3)) ∧ (decode code 1367 = .ok (.pop, 1)) ∧ (decode code 1368 = .ok (.aload_n 2, 1)) ∧ (decode code 1369 = .ok (.aload_n 0, 1)) ∧ (decode code 1370 = .ok (.iload_n 3, 1)) ∧ (decode code 1371 = .ok (.iconst 1, 1)) ∧ (decode code 1372 = .ok (.iadd, 1)) ∧ (decode code 1373 = .ok (.iaload, 1)) ∧ (decode code 1374 = .ok (.aload_n 0, 1)) ∧ (decode code 1375 = .ok (.iload_n 3, 1)) ∧ (decode code 1376 = .ok (.iconst 2, 1)) ∧ (decode code 1377 = .ok (.iadd, 1)) := by decide +kernel
theorem dL_law_1360 : decode code 1360 = .ok (.iload_n 3, 1) := dLq_1360.1
theorem dL_law_1361 : decode code 1361 = .ok (.iconst 2, 1) := dLq_1360.2.1
theorem dL_law_1362 : decode code 1362 = .ok (.iadd, 1) := dLq_1360.2.2.1
theorem dL_law_1363 : decode code 1363 = .ok (.iaload, 1) := dLq_1360.2.2.2.1
theorem dL_law_1364 : decode code 1364 = .ok (.invokevirtual 150, 3) := dLq_1360.2.2.2.2.1
theorem dL_law_1367 : decode code 1367 = .ok (.pop, 1) := dLq_1360.2.2.2.2.2.1
theorem dL_law_1368 : decode code 1368 = .ok (.aload_n 2, 1) := dLq_1360.2.2.2.2.2.2.1
theorem dL_law_1369 : decode code 1369 = .ok (.aload_n 0, 1) := dLq_1360.2.2.2.2.2.2.2.1
theorem dL_law_1370 : decode code 1370 = .ok (.iload_n 3, 1) := dLq_1360.2.2.2.2.2.2.2.2.1
theorem dL_law_1371 : decode code 1371 = .ok (.iconst 1, 1) := dLq_1360.2.2.2.2.2.2.2.2.2.1
theorem dL_law_1372 : decode code 1372 = .ok (.iadd, 1) := dLq_1360.2.2.2.2.2.2.2.2.2.2.1
theorem dL_law_1373 : decode code 1373 = .ok (.iaload, 1) := dLq_1360.2.2.2.2.2.2.2.2.2.2.2.1
theorem dL_law_1374 : decode code 1374 = .ok (.aload_n 0, 1) := dLq_1360.2.2.2.2.2.2.2.2.2.2.2.2.1
theorem dL_law_1375 : decode code 1375 = .ok (.iload_n 3, 1) := dLq_1360.2.2.2.2.2.2.2.2.2.2.2.2.2.1
theorem dL_law_1376 : decode code 1376 = .ok (.iconst 2, 1) := dLq_1360.2.2.2.2.2.2.2.2.2.2.2.2.2.2.1
theorem dL_law_1377 : decode code 1377 = .ok (.iadd, 1) := dLq_1360.2.2.2.2.2.2.2.2.2.2.2.2.2.2.2
theorem dLq_1378 : (decode code 1378 = .ok (.iaload, 1)) ∧ (decode code 1379 = .ok (.invokevirtual 153, 3)) ∧ (decode code 1382 = .ok (.pop, 1)) ∧ (decode code 1383 = .ok (.goto 98, 3)) ∧ (decode code 1386 = .ok (.aload_n 1, 1)) ∧ (decode code 1387 = .ok (.aload_n 0, 1)) ∧ (decode code 1388 = .ok (.iload_n 3, 1)) ∧ (decode code 1389 = .ok (.iconst 1, 1)) ∧ (decode code 1390 = .ok (.iadd, 1)) ∧ (decode code 1391 = .ok (.iaload, 1)) ∧ (decode code 1392 = .ok (.aload_n 0, 1)) ∧ (decode code 1393 = .ok (.iload_n 3, 1)) ∧ (decode code 1394 = .ok (.iconst 2, 1)) ∧ (decode code 1395 = .ok (.iadd, 1)) ∧ (decode code 1396 = .ok (.iaload, 1)) ∧ (decode code 1397 = .ok (.invokevirtual 154, 3)) := by decide +kernel
theorem dL_law_1378 : decode code 1378 = .ok (.iaload, 1) := dLq_1378.1
theorem dL_law_1379 : decode code 1379 = .ok (.invokevirtual 153, 3) := dLq_1378.2.1
theorem dL_law_1382 : decode code 1382 = .ok (.pop, 1) := dLq_1378.2.2.1
theorem dL_law_1383 : decode code 1383 = .ok (.goto 98, 3) := dLq_1378.2.2.2.1
theorem dL_law_1386 : decode code 1386 = .ok (.aload_n 1, 1) := dLq_1378.2.2.2.2.1
theorem dL_law_1387 : decode code 1387 = .ok (.aload_n 0, 1) := dLq_1378.2.2.2.2.2.1
theorem dL_law_1388 : decode code 1388 = .ok (.iload_n 3, 1) := dLq_1378.2.2.2.2.2.2.1
theorem dL_law_1389 : decode code 1389 = .ok (.iconst 1, 1) := dLq_1378.2.2.2.2.2.2.2.1
theorem dL_law_1390 : decode code 1390 = .ok (.iadd, 1) := dLq_1378.2.2.2.2.2.2.2.2.1
theorem dL_law_1391 : decode code 1391 = .ok (.iaload, 1) := dLq_1378.2.2.2.2.2.2.2.2.2.1
theorem dL_law_1392 : decode code 1392 = .ok (.aload_n 0, 1) := dLq_1378.2.2.2.2.2.2.2.2.2.2.1
theorem dL_law_1393 : decode code 1393 = .ok (.iload_n 3, 1) := dLq_1378.2.2.2.2.2.2.2.2.2.2.2.1
theorem dL_law_1394 : decode code 1394 = .ok (.iconst 2, 1) := dLq_1378.2.2.2.2.2.2.2.2.2.2.2.2.1
theorem dL_law_1395 : decode code 1395 = .ok (.iadd, 1) := dLq_1378.2.2.2.2.2.2.2.2.2.2.2.2.2.1
theorem dL_law_1396 : decode code 1396 = .ok (.iaload, 1) := dLq_1378.2.2.2.2.2.2.2.2.2.2.2.2.2.2.1
theorem dL_law_1397 : decode code 1397 = .ok (.invokevirtual 154, 3) := dLq_1378.2.2.2.2.2.2.2.2.2.2.2.2.2.2.2
theorem dLq_1400 : (decode code 1400 = .ok (.pop, 1)) ∧ (decode code 1401 = .ok (.aload_n 2, 1)) ∧ (decode code 1402 = .ok (.aload_n 0, 1)) ∧ (decode code 1403 = .ok (.iload_n 3, 1)) ∧ (decode code 1404 = .ok (.iconst 1, 1)) ∧ (decode code 1405 = .ok (.iadd, 1)) ∧ (decode code 1406 = .ok (.iaload, 1)) ∧ (decode code 1407 = .ok (.aload_n 0, 1)) ∧ (decode code 1408 = .ok (.iload_n 3, 1)) ∧ (decode code 1409 = .ok (.iconst 2, 1)) ∧ (decode code 1410 = .ok (.iadd, 1)) ∧ (decode code 1411 = .ok (.iaload, 1)) ∧ (decode code 1412 = .ok (.invokevirtual 157, 3)) ∧ (decode code 1415 = .ok (.pop, 1)) ∧ (decode code 1416 = .ok (.goto 65, 3)) ∧ (decode code 1419 = .ok (.aload_n 1, 1)) := by decide +kernel
theorem dL_law_1400 : decode code 1400 = .ok (.pop, 1) := dLq_1400.1
theorem dL_law_1401 : decode code 1401 = .ok (.aload_n 2, 1) := dLq_1400.2.1
theorem dL_law_1402 : decode code 1402 = .ok (.aload_n 0, 1) := dLq_1400.2.2.1
theorem dL_law_1403 : decode code 1403 = .ok (.iload_n 3, 1) := dLq_1400.2.2.2.1
theorem dL_law_1404 : decode code 1404 = .ok (.iconst 1, 1) := dLq_1400.2.2.2.2.1
theorem dL_law_1405 : decode code 1405 = .ok (.iadd, 1) := dLq_1400.2.2.2.2.2.1
theorem dL_law_1406 : decode code 1406 = .ok (.iaload, 1) := dLq_1400.2.2.2.2.2.2.1
theorem dL_law_1407 : decode code 1407 = .ok (.aload_n 0, 1) := dLq_1400.2.2.2.2.2.2.2.1
theorem dL_law_1408 : decode code 1408 = .ok (.iload_n 3, 1) := dLq_1400.2.2.2.2.2.2.2.2.1
theorem dL_law_1409 : decode code 1409 = .ok (.iconst 2, 1) := dLq_1400.2.2.2.2.2.2.2.2.2.1
theorem dL_law_1410 : decode code 1410 = .ok (.iadd, 1) := dLq_1400.2.2.2.2.2.2.2.2.2.2.1
theorem dL_law_1411 : decode code 1411 = .ok (.iaload, 1) := dLq_1400.2.2.2.2.2.2.2.2.2.2.2.1
theorem dL_law_1412 : decode code 1412 = .ok (.invokevirtual 157, 3) := dLq_1400.2.2.2.2.2.2.2.2.2.2.2.2.1
theorem dL_law_1415 : decode code 1415 = .ok (.pop, 1) := dLq_1400.2.2.2.2.2.2.2.2.2.2.2.2.2.1
theorem dL_law_1416 : decode code 1416 = .ok (.goto 65, 3) := dLq_1400.2.2.2.2.2.2.2.2.2.2.2.2.2.2.1
theorem dL_law_1419 : decode code 1419 = .ok (.aload_n 1, 1) := dLq_1400.2.2.2.2.2.2.2.2.2.2.2.2.2.2.2
theorem dLq_1420 : (decode code 1420 = .ok (.aload_n 0, 1)) ∧ (decode code 1421 = .ok (.iload_n 3, 1)) ∧ (decode code 1422 = .ok (.iconst 1, 1)) ∧ (decode code 1423 = .ok (.iadd, 1)) ∧ (decode code 1424 = .ok (.iaload, 1)) ∧ (decode code 1425 = .ok (.ifCond .eq 7, 3)) ∧ (decode code 1428 = .ok (.iconst 1, 1)) ∧ (decode code 1429 = .ok (.goto 4, 3)) ∧ (decode code 1432 = .ok (.iconst 0, 1)) ∧ (decode code 1433 = .ok (.invokevirtual 158, 3)) ∧ (decode code 1436 = .ok (.aload_n 2, 1)) ∧ (decode code 1437 = .ok (.aload_n 0, 1)) ∧ (decode code 1438 = .ok (.iload_n 3, 1)) ∧ (decode code 1439 = .ok (.iconst 1, 1)) ∧ (decode code 1440 = .ok (.iadd, 1)) ∧ (decode code 1441 = .ok (.iaload, 1)) := by decide +kernel
theorem dL_law_1420 : decode code 1420 = .ok (.aload_n 0, 1) := dLq_1420.1
theorem dL_law_1421 : decode code 1421 = .ok (.iload_n 3, 1) := dLq_1420.2.1
theorem dL_law_1422 : decode code 1422 = .ok (.iconst 1, 1) := dLq_1420.2.2.1
theorem dL_law_1423 : decode code 1423 = .ok (.iadd, 1) := dLq_1420.2.2.2.1
theorem dL_law_1424 : decode code 1424 = .ok (.iaload, 1) := dLq_1420.2.2.2.2.1
theorem dL_law_1425 : decode code 1425 = .ok (.ifCond .eq 7, 3) := dLq_1420.2.2.2.2.2.1
theorem dL_law_1428 : decode code 1428 = .ok (.iconst 1, 1) := dLq_1420.2.2.2.2.2.2.1
theorem dL_law_1429 : decode code 1429 = .ok (.goto 4, 3) := dLq_1420.2.2.2.2.2.2.2.1
theorem dL_law_1432 : decode code 1432 = .ok (.iconst 0, 1) := dLq_1420.2.2.2.2.2.2.2.2.1
theorem dL_law_1433 : decode code 1433 = .ok (.invokevirtual 158, 3) := dLq_1420.2.2.2.2.2.2.2.2.2.1
theorem dL_law_1436 : decode code 1436 = .ok (.aload_n 2, 1) := dLq_1420.2.2.2.2.2.2.2.2.2.2.1
theorem dL_law_1437 : decode code 1437 = .ok (.aload_n 0, 1) := dLq_1420.2.2.2.2.2.2.2.2.2.2.2.1
theorem dL_law_1438 : decode code 1438 = .ok (.iload_n 3, 1) := dLq_1420.2.2.2.2.2.2.2.2.2.2.2.2.1
theorem dL_law_1439 : decode code 1439 = .ok (.iconst 1, 1) := dLq_1420.2.2.2.2.2.2.2.2.2.2.2.2.2.1
theorem dL_law_1440 : decode code 1440 = .ok (.iadd, 1) := dLq_1420.2.2.2.2.2.2.2.2.2.2.2.2.2.2.1
theorem dL_law_1441 : decode code 1441 = .ok (.iaload, 1) := dLq_1420.2.2.2.2.2.2.2.2.2.2.2.2.2.2.2
theorem dLq_1442 : (decode code 1442 = .ok (.ifCond .eq 7, 3)) ∧ (decode code 1445 = .ok (.iconst 1, 1)) ∧ (decode code 1446 = .ok (.goto 4, 3)) ∧ (decode code 1449 = .ok (.iconst 0, 1)) ∧ (decode code 1450 = .ok (.invokevirtual 162, 3)) ∧ (decode code 1453 = .ok (.if_icmp .eq 28, 3)) ∧ (decode code 1456 = .ok (.iconst 0, 1)) ∧ (decode code 1457 = .ok (.ireturn, 1)) ∧ (decode code 1458 = .ok (.aload_n 1, 1)) ∧ (decode code 1459 = .ok (.aload_n 0, 1)) ∧ (decode code 1460 = .ok (.iload_n 3, 1)) ∧ (decode code 1461 = .ok (.iconst 1, 1)) ∧ (decode code 1462 = .ok (.iadd, 1)) ∧ (decode code 1463 = .ok (.iaload, 1)) ∧ (decode code 1464 = .ok (.invokevirtual 163, 3)) ∧ (decode code 1467 = .ok (.pop, 1)) := by decide +kernel
theorem dL_law_1442 : decode code 1442 = .ok (.ifCond .eq 7, 3) := dLq_1442.1
theorem dL_law_1445 : decode code 1445 = .ok (.iconst 1, 1) := dLq_1442.2.1
theorem dL_law_1446 : decode code 1446 = .ok (.goto 4, 3) := dLq_1442.2.2.1
theorem dL_law_1449 : decode code 1449 = .ok (.iconst 0, 1) := dLq_1442.2.2.2.1
theorem dL_law_1450 : decode code 1450 = .ok (.invokevirtual 162, 3) := dLq_1442.2.2.2.2.1
theorem dL_law_1453 : decode code 1453 = .ok (.if_icmp .eq 28, 3) := dLq_1442.2.2.2.2.2.1
theorem dL_law_1456 : decode code 1456 = .ok (.iconst 0, 1) := dLq_1442.2.2.2.2.2.2.1
theorem dL_law_1457 : decode code 1457 = .ok (.ireturn, 1) := dLq_1442.2.2.2.2.2.2.2.1
theorem dL_law_1458 : decode code 1458 = .ok (.aload_n 1, 1) := dLq_1442.2.2.2.2.2.2.2.2.1
theorem dL_law_1459 : decode code 1459 = .ok (.aload_n 0, 1) := dLq_1442.2.2.2.2.2.2.2.2.2.1
theorem dL_law_1460 : decode code 1460 = .ok (.iload_n 3, 1) := dLq_1442.2.2.2.2.2.2.2.2.2.2.1
theorem dL_law_1461 : decode code 1461 = .ok (.iconst 1, 1) := dLq_1442.2.2.2.2.2.2.2.2.2.2.2.1
theorem dL_law_1462 : decode code 1462 = .ok (.iadd, 1) := dLq_1442.2.2.2.2.2.2.2.2.2.2.2.2.1
theorem dL_law_1463 : decode code 1463 = .ok (.iaload, 1) := dLq_1442.2.2.2.2.2.2.2.2.2.2.2.2.2.1
theorem dL_law_1464 : decode code 1464 = .ok (.invokevirtual 163, 3) := dLq_1442.2.2.2.2.2.2.2.2.2.2.2.2.2.2.1
theorem dL_law_1467 : decode code 1467 = .ok (.pop, 1) := dLq_1442.2.2.2.2.2.2.2.2.2.2.2.2.2.2.2
theorem dLq_1468 : (decode code 1468 = .ok (.aload_n 2, 1)) ∧ (decode code 1469 = .ok (.aload_n 0, 1)) ∧ (decode code 1470 = .ok (.iload_n 3, 1)) ∧ (decode code 1471 = .ok (.iconst 1, 1)) ∧ (decode code 1472 = .ok (.iadd, 1)) ∧ (decode code 1473 = .ok (.iaload, 1)) ∧ (decode code 1474 = .ok (.invokevirtual 166, 3)) ∧ (decode code 1477 = .ok (.pop, 1)) ∧ (decode code 1478 = .ok (.goto 3, 3)) ∧ (decode code 1481 = .ok (.iinc 3 6, 3)) ∧ (decode code 1484 = .ok (.goto (-1466), 3)) ∧ (decode code 1487 = .ok (.iconst 1, 1)) ∧ (decode code 1488 = .ok (.ireturn, 1)) := by decide +kernel
theorem dL_law_1468 : decode code 1468 = .ok (.aload_n 2, 1) := dLq_1468.1
theorem dL_law_1469 : decode code 1469 = .ok (.aload_n 0, 1) := dLq_1468.2.1
theorem dL_law_1470 : decode code 1470 = .ok (.iload_n 3, 1) := dLq_1468.2.2.1
theorem dL_law_1471 : decode code 1471 = .ok (.iconst 1, 1) := dLq_1468.2.2.2.1
theorem dL_law_1472 : decode code 1472 = .ok (.iadd, 1) := dLq_1468.2.2.2.2.1
theorem dL_law_1473 : decode code 1473 = .ok (.iaload, 1) := dLq_1468.2.2.2.2.2.1
theorem dL_law_1474 : decode code 1474 = .ok (.invokevirtual 166, 3) := dLq_1468.2.2.2.2.2.2.1
theorem dL_law_1477 : decode code 1477 = .ok (.pop, 1) := dLq_1468.2.2.2.2.2.2.2.1
theorem dL_law_1478 : decode code 1478 = .ok (.goto 3, 3) := dLq_1468.2.2.2.2.2.2.2.2.1
theorem dL_law_1481 : decode code 1481 = .ok (.iinc 3 6, 3) := dLq_1468.2.2.2.2.2.2.2.2.2.1
theorem dL_law_1484 : decode code 1484 = .ok (.goto (-1466), 3) := dLq_1468.2.2.2.2.2.2.2.2.2.2.1
theorem dL_law_1487 : decode code 1487 = .ok (.iconst 1, 1) := dLq_1468.2.2.2.2.2.2.2.2.2.2.2.1
theorem dL_law_1488 : decode code 1488 = .ok (.ireturn, 1) := dLq_1468.2.2.2.2.2.2.2.2.2.2.2.2
theorem tm_411 : (Jvm.Cond.methodLink "RollingNetsLaw" (13 : Nat) ({ cls := "RollingNets", name := "set", desc := "(II)Z" } : Jvm.MethodName)) ∈ TBL := TBL_mem 411 (by decide +kernel) (by decide +kernel)
theorem tm_414 : (Jvm.Cond.code ({ cls := "RollingNets", name := "set", desc := "(II)Z" } : Jvm.MethodName) prog_1_method_2_code (3 : Nat) (Option.some Jvm.ClassFile.FieldType.boolean)) ∈ TBL := TBL_mem 414 (by decide +kernel) (by decide +kernel)
theorem tm_412 : (Jvm.Cond.instanceMethod ({ cls := "RollingNets", name := "set", desc := "(II)Z" } : Jvm.MethodName)) ∈ TBL := TBL_mem 412 (by decide +kernel) (by decide +kernel)
theorem tm_413 : (Jvm.Cond.selects "RollingNets" ({ cls := "RollingNets", name := "set", desc := "(II)Z" } : Jvm.MethodName) ({ cls := "RollingNets", name := "set", desc := "(II)Z" } : Jvm.MethodName)) ∈ TBL := TBL_mem 413 (by decide +kernel) (by decide +kernel)
theorem mv_Law_13 : MV "RollingNetsLaw" 13 yX8_set cX8_set 3 (some .boolean) 2 0 := ⟨⟨Or.inl tm_411, tm_111, tm_414, by decide +kernel⟩, tm_412, tm_413, _, _, rfl⟩
theorem tm_427 : (Jvm.Cond.methodLink "RollingNetsLaw" (18 : Nat) ({ cls := "RollingNets", name := "tell", desc := "(IIII)Z" } : Jvm.MethodName)) ∈ TBL := TBL_mem 427 (by decide +kernel) (by decide +kernel)
theorem mv_Law_18 : MV "RollingNetsLaw" 18 yX8_tell cX8_tell 6 (some .boolean) 4 0 := ⟨⟨Or.inl tm_427, tm_111, tm_430, by decide +kernel⟩, tm_428, tm_429, _, _, rfl⟩
theorem tm_443 : (Jvm.Cond.methodLink "RollingNetsLaw" (23 : Nat) ({ cls := "RollingNets", name := "price", desc := "(II)Z" } : Jvm.MethodName)) ∈ TBL := TBL_mem 443 (by decide +kernel) (by decide +kernel)
theorem mv_Law_23 : MV "RollingNetsLaw" 23 yX8_price cX8_price 3 (some .boolean) 2 0 := ⟨⟨Or.inl tm_443, tm_111, tm_446, by decide +kernel⟩, tm_444, tm_445, _, _, rfl⟩
theorem tm_447 : (Jvm.Cond.methodLink "RollingNetsLaw" (27 : Nat) ({ cls := "RollingNets", name := "trade", desc := "(IIIII)I" } : Jvm.MethodName)) ∈ TBL := TBL_mem 447 (by decide +kernel) (by decide +kernel)
theorem mv_Law_27 : MV "RollingNetsLaw" 27 yX8_trade cX8_trade 6 (some .int) 5 0 := ⟨⟨Or.inl tm_447, tm_111, tm_450, by decide +kernel⟩, tm_448, tm_449, _, _, rfl⟩
theorem tm_470 : (Jvm.Cond.methodLink "RollingNetsLaw" (32 : Nat) ({ cls := "RollingNets", name := "apart", desc := "(IIIII)I" } : Jvm.MethodName)) ∈ TBL := TBL_mem 470 (by decide +kernel) (by decide +kernel)
theorem mv_Law_32 : MV "RollingNetsLaw" 32 yX8_apart cX8_apart 6 (some .int) 5 0 := ⟨⟨Or.inl tm_470, tm_111, tm_473, by decide +kernel⟩, tm_471, tm_472, _, _, rfl⟩
theorem tm_474 : (Jvm.Cond.methodLink "RollingNetsLaw" (36 : Nat) ({ cls := "RollingNets", name := "dividend", desc := "(II)Z" } : Jvm.MethodName)) ∈ TBL := TBL_mem 474 (by decide +kernel) (by decide +kernel)
theorem tm_477 : (Jvm.Cond.code ({ cls := "RollingNets", name := "dividend", desc := "(II)Z" } : Jvm.MethodName) prog_1_method_8_code (3 : Nat) (Option.some Jvm.ClassFile.FieldType.boolean)) ∈ TBL := TBL_mem 477 (by decide +kernel) (by decide +kernel)
theorem tm_475 : (Jvm.Cond.instanceMethod ({ cls := "RollingNets", name := "dividend", desc := "(II)Z" } : Jvm.MethodName)) ∈ TBL := TBL_mem 475 (by decide +kernel) (by decide +kernel)
theorem tm_476 : (Jvm.Cond.selects "RollingNets" ({ cls := "RollingNets", name := "dividend", desc := "(II)Z" } : Jvm.MethodName) ({ cls := "RollingNets", name := "dividend", desc := "(II)Z" } : Jvm.MethodName)) ∈ TBL := TBL_mem 476 (by decide +kernel) (by decide +kernel)
theorem mv_Law_36 : MV "RollingNetsLaw" 36 yX8_dividend cX8_dividend 3 (some .boolean) 2 0 := ⟨⟨Or.inl tm_474, tm_111, tm_477, by decide +kernel⟩, tm_475, tm_476, _, _, rfl⟩
theorem tm_478 : (Jvm.Cond.methodLink "RollingNetsLaw" (40 : Nat) ({ cls := "RollingNets", name := "move", desc := "(IIII)Z" } : Jvm.MethodName)) ∈ TBL := TBL_mem 478 (by decide +kernel) (by decide +kernel)
theorem tm_481 : (Jvm.Cond.code ({ cls := "RollingNets", name := "move", desc := "(IIII)Z" } : Jvm.MethodName) prog_1_method_9_code (6 : Nat) (Option.some Jvm.ClassFile.FieldType.boolean)) ∈ TBL := TBL_mem 481 (by decide +kernel) (by decide +kernel)
theorem tm_479 : (Jvm.Cond.instanceMethod ({ cls := "RollingNets", name := "move", desc := "(IIII)Z" } : Jvm.MethodName)) ∈ TBL := TBL_mem 479 (by decide +kernel) (by decide +kernel)
theorem tm_480 : (Jvm.Cond.selects "RollingNets" ({ cls := "RollingNets", name := "move", desc := "(IIII)Z" } : Jvm.MethodName) ({ cls := "RollingNets", name := "move", desc := "(IIII)Z" } : Jvm.MethodName)) ∈ TBL := TBL_mem 480 (by decide +kernel) (by decide +kernel)
theorem mv_Law_40 : MV "RollingNetsLaw" 40 yX8_move cX8_move 6 (some .boolean) 4 0 := ⟨⟨Or.inl tm_478, tm_111, tm_481, by decide +kernel⟩, tm_479, tm_480, _, _, rfl⟩
theorem tm_489 : (Jvm.Cond.methodLink "RollingNetsLaw" (44 : Nat) ({ cls := "RollingNets", name := "split", desc := "(II)Z" } : Jvm.MethodName)) ∈ TBL := TBL_mem 489 (by decide +kernel) (by decide +kernel)
theorem tm_492 : (Jvm.Cond.code ({ cls := "RollingNets", name := "split", desc := "(II)Z" } : Jvm.MethodName) prog_1_method_10_code (3 : Nat) (Option.some Jvm.ClassFile.FieldType.boolean)) ∈ TBL := TBL_mem 492 (by decide +kernel) (by decide +kernel)
theorem tm_490 : (Jvm.Cond.instanceMethod ({ cls := "RollingNets", name := "split", desc := "(II)Z" } : Jvm.MethodName)) ∈ TBL := TBL_mem 490 (by decide +kernel) (by decide +kernel)
theorem tm_491 : (Jvm.Cond.selects "RollingNets" ({ cls := "RollingNets", name := "split", desc := "(II)Z" } : Jvm.MethodName) ({ cls := "RollingNets", name := "split", desc := "(II)Z" } : Jvm.MethodName)) ∈ TBL := TBL_mem 491 (by decide +kernel) (by decide +kernel)
theorem mv_Law_44 : MV "RollingNetsLaw" 44 yX8_split cX8_split 3 (some .boolean) 2 0 := ⟨⟨Or.inl tm_489, tm_111, tm_492, by decide +kernel⟩, tm_490, tm_491, _, _, rfl⟩
theorem tm_530 : (Jvm.Cond.methodLink "RollingNetsLaw" (48 : Nat) ({ cls := "RollingNets", name := "suspend", desc := "(IZ)Z" } : Jvm.MethodName)) ∈ TBL := TBL_mem 530 (by decide +kernel) (by decide +kernel)
theorem tm_533 : (Jvm.Cond.code ({ cls := "RollingNets", name := "suspend", desc := "(IZ)Z" } : Jvm.MethodName) prog_1_method_11_code (3 : Nat) (Option.some Jvm.ClassFile.FieldType.boolean)) ∈ TBL := TBL_mem 533 (by decide +kernel) (by decide +kernel)
theorem tm_531 : (Jvm.Cond.instanceMethod ({ cls := "RollingNets", name := "suspend", desc := "(IZ)Z" } : Jvm.MethodName)) ∈ TBL := TBL_mem 531 (by decide +kernel) (by decide +kernel)
theorem tm_532 : (Jvm.Cond.selects "RollingNets" ({ cls := "RollingNets", name := "suspend", desc := "(IZ)Z" } : Jvm.MethodName) ({ cls := "RollingNets", name := "suspend", desc := "(IZ)Z" } : Jvm.MethodName)) ∈ TBL := TBL_mem 532 (by decide +kernel) (by decide +kernel)
theorem mv_Law_48 : MV "RollingNetsLaw" 48 yX8_suspend cX8_suspend 3 (some .boolean) 2 0 := ⟨⟨Or.inl tm_530, tm_111, tm_533, by decide +kernel⟩, tm_531, tm_532, _, _, rfl⟩
theorem tm_534 : (Jvm.Cond.methodLink "RollingNetsLaw" (53 : Nat) ({ cls := "RollingNets", name := "collateral", desc := "(II)Z" } : Jvm.MethodName)) ∈ TBL := TBL_mem 534 (by decide +kernel) (by decide +kernel)
theorem tm_537 : (Jvm.Cond.code ({ cls := "RollingNets", name := "collateral", desc := "(II)Z" } : Jvm.MethodName) prog_1_method_12_code (3 : Nat) (Option.some Jvm.ClassFile.FieldType.boolean)) ∈ TBL := TBL_mem 537 (by decide +kernel) (by decide +kernel)
theorem tm_535 : (Jvm.Cond.instanceMethod ({ cls := "RollingNets", name := "collateral", desc := "(II)Z" } : Jvm.MethodName)) ∈ TBL := TBL_mem 535 (by decide +kernel) (by decide +kernel)
theorem tm_536 : (Jvm.Cond.selects "RollingNets" ({ cls := "RollingNets", name := "collateral", desc := "(II)Z" } : Jvm.MethodName) ({ cls := "RollingNets", name := "collateral", desc := "(II)Z" } : Jvm.MethodName)) ∈ TBL := TBL_mem 536 (by decide +kernel) (by decide +kernel)
theorem mv_Law_53 : MV "RollingNetsLaw" 53 yX8_collateral cX8_collateral 3 (some .boolean) 2 0 := ⟨⟨Or.inl tm_534, tm_111, tm_537, by decide +kernel⟩, tm_535, tm_536, _, _, rfl⟩
theorem tm_539 : (Jvm.Cond.methodLink "RollingNetsLaw" (57 : Nat) ({ cls := "RollingNets", name := "night", desc := "(I)I" } : Jvm.MethodName)) ∈ TBL := TBL_mem 539 (by decide +kernel) (by decide +kernel)
theorem tm_542 : (Jvm.Cond.code ({ cls := "RollingNets", name := "night", desc := "(I)I" } : Jvm.MethodName) prog_1_method_13_code (2 : Nat) (Option.some Jvm.ClassFile.FieldType.int)) ∈ TBL := TBL_mem 542 (by decide +kernel) (by decide +kernel)
theorem tm_540 : (Jvm.Cond.instanceMethod ({ cls := "RollingNets", name := "night", desc := "(I)I" } : Jvm.MethodName)) ∈ TBL := TBL_mem 540 (by decide +kernel) (by decide +kernel)
theorem tm_541 : (Jvm.Cond.selects "RollingNets" ({ cls := "RollingNets", name := "night", desc := "(I)I" } : Jvm.MethodName) ({ cls := "RollingNets", name := "night", desc := "(I)I" } : Jvm.MethodName)) ∈ TBL := TBL_mem 541 (by decide +kernel) (by decide +kernel)
theorem mv_Law_57 : MV "RollingNetsLaw" 57 yX8_night cX8_night 2 (some .int) 1 0 := ⟨⟨Or.inl tm_539, tm_111, tm_542, by decide +kernel⟩, tm_540, tm_541, _, _, rfl⟩
theorem tm_698 : (Jvm.Cond.methodLink "RollingNetsLaw" (62 : Nat) ({ cls := "RollingNets", name := "give", desc := "(III)I" } : Jvm.MethodName)) ∈ TBL := TBL_mem 698 (by decide +kernel) (by decide +kernel)
theorem tm_701 : (Jvm.Cond.code ({ cls := "RollingNets", name := "give", desc := "(III)I" } : Jvm.MethodName) prog_1_method_14_code (4 : Nat) (Option.some Jvm.ClassFile.FieldType.int)) ∈ TBL := TBL_mem 701 (by decide +kernel) (by decide +kernel)
theorem tm_699 : (Jvm.Cond.instanceMethod ({ cls := "RollingNets", name := "give", desc := "(III)I" } : Jvm.MethodName)) ∈ TBL := TBL_mem 699 (by decide +kernel) (by decide +kernel)
theorem tm_700 : (Jvm.Cond.selects "RollingNets" ({ cls := "RollingNets", name := "give", desc := "(III)I" } : Jvm.MethodName) ({ cls := "RollingNets", name := "give", desc := "(III)I" } : Jvm.MethodName)) ∈ TBL := TBL_mem 700 (by decide +kernel) (by decide +kernel)
theorem mv_Law_62 : MV "RollingNetsLaw" 62 yX8_give cX8_give 4 (some .int) 3 0 := ⟨⟨Or.inl tm_698, tm_111, tm_701, by decide +kernel⟩, tm_699, tm_700, _, _, rfl⟩
theorem tm_722 : (Jvm.Cond.methodLink "RollingNetsLaw" (67 : Nat) ({ cls := "RollingNets", name := "call", desc := "(I)I" } : Jvm.MethodName)) ∈ TBL := TBL_mem 722 (by decide +kernel) (by decide +kernel)
theorem tm_725 : (Jvm.Cond.code ({ cls := "RollingNets", name := "call", desc := "(I)I" } : Jvm.MethodName) prog_1_method_15_code (2 : Nat) (Option.some Jvm.ClassFile.FieldType.int)) ∈ TBL := TBL_mem 725 (by decide +kernel) (by decide +kernel)
theorem tm_723 : (Jvm.Cond.instanceMethod ({ cls := "RollingNets", name := "call", desc := "(I)I" } : Jvm.MethodName)) ∈ TBL := TBL_mem 723 (by decide +kernel) (by decide +kernel)
theorem tm_724 : (Jvm.Cond.selects "RollingNets" ({ cls := "RollingNets", name := "call", desc := "(I)I" } : Jvm.MethodName) ({ cls := "RollingNets", name := "call", desc := "(I)I" } : Jvm.MethodName)) ∈ TBL := TBL_mem 724 (by decide +kernel) (by decide +kernel)
theorem mv_Law_67 : MV "RollingNetsLaw" 67 yX8_call cX8_call 2 (some .int) 1 0 := ⟨⟨Or.inl tm_722, tm_111, tm_725, by decide +kernel⟩, tm_723, tm_724, _, _, rfl⟩
theorem tm_732 : (Jvm.Cond.methodLink "RollingNetsLaw" (71 : Nat) ({ cls := "RollingNets", name := "feed", desc := "(IIIII)I" } : Jvm.MethodName)) ∈ TBL := TBL_mem 732 (by decide +kernel) (by decide +kernel)
theorem tm_735 : (Jvm.Cond.code ({ cls := "RollingNets", name := "feed", desc := "(IIIII)I" } : Jvm.MethodName) prog_1_method_16_code (6 : Nat) (Option.some Jvm.ClassFile.FieldType.int)) ∈ TBL := TBL_mem 735 (by decide +kernel) (by decide +kernel)
theorem tm_733 : (Jvm.Cond.instanceMethod ({ cls := "RollingNets", name := "feed", desc := "(IIIII)I" } : Jvm.MethodName)) ∈ TBL := TBL_mem 733 (by decide +kernel) (by decide +kernel)
theorem tm_734 : (Jvm.Cond.selects "RollingNets" ({ cls := "RollingNets", name := "feed", desc := "(IIIII)I" } : Jvm.MethodName) ({ cls := "RollingNets", name := "feed", desc := "(IIIII)I" } : Jvm.MethodName)) ∈ TBL := TBL_mem 734 (by decide +kernel) (by decide +kernel)
theorem mv_Law_71 : MV "RollingNetsLaw" 71 yX8_feed cX8_feed 6 (some .int) 5 0 := ⟨⟨Or.inl tm_732, tm_111, tm_735, by decide +kernel⟩, tm_733, tm_734, _, _, rfl⟩
theorem tm_744 : (Jvm.Cond.methodLink "RollingNetsLaw" (75 : Nat) ({ cls := "RollingNets", name := "end", desc := "(I)Z" } : Jvm.MethodName)) ∈ TBL := TBL_mem 744 (by decide +kernel) (by decide +kernel)
theorem tm_747 : (Jvm.Cond.code ({ cls := "RollingNets", name := "end", desc := "(I)Z" } : Jvm.MethodName) prog_1_method_17_code (2 : Nat) (Option.some Jvm.ClassFile.FieldType.boolean)) ∈ TBL := TBL_mem 747 (by decide +kernel) (by decide +kernel)
theorem tm_745 : (Jvm.Cond.instanceMethod ({ cls := "RollingNets", name := "end", desc := "(I)Z" } : Jvm.MethodName)) ∈ TBL := TBL_mem 745 (by decide +kernel) (by decide +kernel)
theorem tm_746 : (Jvm.Cond.selects "RollingNets" ({ cls := "RollingNets", name := "end", desc := "(I)Z" } : Jvm.MethodName) ({ cls := "RollingNets", name := "end", desc := "(I)Z" } : Jvm.MethodName)) ∈ TBL := TBL_mem 746 (by decide +kernel) (by decide +kernel)
theorem mv_Law_75 : MV "RollingNetsLaw" 75 yX8_end cX8_end 2 (some .boolean) 1 0 := ⟨⟨Or.inl tm_744, tm_111, tm_747, by decide +kernel⟩, tm_745, tm_746, _, _, rfl⟩
theorem tm_748 : (Jvm.Cond.methodLink "RollingNetsLaw" (80 : Nat) ({ cls := "RollingNets", name := "plan", desc := "()I" } : Jvm.MethodName)) ∈ TBL := TBL_mem 748 (by decide +kernel) (by decide +kernel)
theorem tm_751 : (Jvm.Cond.code ({ cls := "RollingNets", name := "plan", desc := "()I" } : Jvm.MethodName) prog_1_method_18_code (1 : Nat) (Option.some Jvm.ClassFile.FieldType.int)) ∈ TBL := TBL_mem 751 (by decide +kernel) (by decide +kernel)
theorem tm_749 : (Jvm.Cond.instanceMethod ({ cls := "RollingNets", name := "plan", desc := "()I" } : Jvm.MethodName)) ∈ TBL := TBL_mem 749 (by decide +kernel) (by decide +kernel)
theorem tm_750 : (Jvm.Cond.selects "RollingNets" ({ cls := "RollingNets", name := "plan", desc := "()I" } : Jvm.MethodName) ({ cls := "RollingNets", name := "plan", desc := "()I" } : Jvm.MethodName)) ∈ TBL := TBL_mem 750 (by decide +kernel) (by decide +kernel)
theorem mv_Law_80 : MV "RollingNetsLaw" 80 yX8_plan cX8_plan 1 (some .int) 0 0 := ⟨⟨Or.inl tm_748, tm_111, tm_751, by decide +kernel⟩, tm_749, tm_750, _, _, rfl⟩
theorem tm_878 : (Jvm.Cond.methodLink "RollingNetsLaw" (85 : Nat) ({ cls := "RollingNets", name := "fault", desc := "(I)I" } : Jvm.MethodName)) ∈ TBL := TBL_mem 878 (by decide +kernel) (by decide +kernel)
theorem tm_881 : (Jvm.Cond.code ({ cls := "RollingNets", name := "fault", desc := "(I)I" } : Jvm.MethodName) prog_1_method_19_code (2 : Nat) (Option.some Jvm.ClassFile.FieldType.int)) ∈ TBL := TBL_mem 881 (by decide +kernel) (by decide +kernel)
theorem tm_879 : (Jvm.Cond.instanceMethod ({ cls := "RollingNets", name := "fault", desc := "(I)I" } : Jvm.MethodName)) ∈ TBL := TBL_mem 879 (by decide +kernel) (by decide +kernel)
theorem tm_880 : (Jvm.Cond.selects "RollingNets" ({ cls := "RollingNets", name := "fault", desc := "(I)I" } : Jvm.MethodName) ({ cls := "RollingNets", name := "fault", desc := "(I)I" } : Jvm.MethodName)) ∈ TBL := TBL_mem 880 (by decide +kernel) (by decide +kernel)
theorem mv_Law_85 : MV "RollingNetsLaw" 85 yX8_fault cX8_fault 2 (some .int) 1 0 := ⟨⟨Or.inl tm_878, tm_111, tm_881, by decide +kernel⟩, tm_879, tm_880, _, _, rfl⟩
theorem tm_882 : (Jvm.Cond.methodLink "RollingNetsLaw" (89 : Nat) ({ cls := "RollingNets", name := "run", desc := "(I)I" } : Jvm.MethodName)) ∈ TBL := TBL_mem 882 (by decide +kernel) (by decide +kernel)
theorem tm_885 : (Jvm.Cond.code ({ cls := "RollingNets", name := "run", desc := "(I)I" } : Jvm.MethodName) prog_1_method_20_code (6 : Nat) (Option.some Jvm.ClassFile.FieldType.int)) ∈ TBL := TBL_mem 885 (by decide +kernel) (by decide +kernel)
theorem tm_883 : (Jvm.Cond.instanceMethod ({ cls := "RollingNets", name := "run", desc := "(I)I" } : Jvm.MethodName)) ∈ TBL := TBL_mem 883 (by decide +kernel) (by decide +kernel)
theorem tm_884 : (Jvm.Cond.selects "RollingNets" ({ cls := "RollingNets", name := "run", desc := "(I)I" } : Jvm.MethodName) ({ cls := "RollingNets", name := "run", desc := "(I)I" } : Jvm.MethodName)) ∈ TBL := TBL_mem 884 (by decide +kernel) (by decide +kernel)
theorem mv_Law_89 : MV "RollingNetsLaw" 89 yX8_run cX8_run 6 (some .int) 1 0 := ⟨⟨Or.inl tm_882, tm_111, tm_885, by decide +kernel⟩, tm_883, tm_884, _, _, rfl⟩
theorem tm_895 : (Jvm.Cond.methodLink "RollingNetsLaw" (158 : Nat) ({ cls := "RollingNets", name := "image", desc := "(Z)Z" } : Jvm.MethodName)) ∈ TBL := TBL_mem 895 (by decide +kernel) (by decide +kernel)
theorem tm_898 : (Jvm.Cond.code ({ cls := "RollingNets", name := "image", desc := "(Z)Z" } : Jvm.MethodName) prog_1_method_22_code (2 : Nat) (Option.some Jvm.ClassFile.FieldType.boolean)) ∈ TBL := TBL_mem 898 (by decide +kernel) (by decide +kernel)
theorem tm_896 : (Jvm.Cond.instanceMethod ({ cls := "RollingNets", name := "image", desc := "(Z)Z" } : Jvm.MethodName)) ∈ TBL := TBL_mem 896 (by decide +kernel) (by decide +kernel)
theorem tm_897 : (Jvm.Cond.selects "RollingNets" ({ cls := "RollingNets", name := "image", desc := "(Z)Z" } : Jvm.MethodName) ({ cls := "RollingNets", name := "image", desc := "(Z)Z" } : Jvm.MethodName)) ∈ TBL := TBL_mem 897 (by decide +kernel) (by decide +kernel)
theorem mv_Law_158 : MV "RollingNetsLaw" 158 yX8_image cX8_image 2 (some .boolean) 1 0 := ⟨⟨Or.inl tm_895, tm_111, tm_898, by decide +kernel⟩, tm_896, tm_897, _, _, rfl⟩
theorem tm_909 : (Jvm.Cond.methodLink "RollingNetsLaw" (93 : Nat) ({ cls := "RollingNets", name := "at", desc := "(III)I" } : Jvm.MethodName)) ∈ TBL := TBL_mem 909 (by decide +kernel) (by decide +kernel)
theorem tm_912 : (Jvm.Cond.code ({ cls := "RollingNets", name := "at", desc := "(III)I" } : Jvm.MethodName) prog_1_method_23_code (4 : Nat) (Option.some Jvm.ClassFile.FieldType.int)) ∈ TBL := TBL_mem 912 (by decide +kernel) (by decide +kernel)
theorem tm_910 : (Jvm.Cond.instanceMethod ({ cls := "RollingNets", name := "at", desc := "(III)I" } : Jvm.MethodName)) ∈ TBL := TBL_mem 910 (by decide +kernel) (by decide +kernel)
theorem tm_911 : (Jvm.Cond.selects "RollingNets" ({ cls := "RollingNets", name := "at", desc := "(III)I" } : Jvm.MethodName) ({ cls := "RollingNets", name := "at", desc := "(III)I" } : Jvm.MethodName)) ∈ TBL := TBL_mem 911 (by decide +kernel) (by decide +kernel)
theorem mv_Law_93 : MV "RollingNetsLaw" 93 yX8_at cX8_at 4 (some .int) 3 0 := ⟨⟨Or.inl tm_909, tm_111, tm_912, by decide +kernel⟩, tm_910, tm_911, _, _, rfl⟩
theorem tm_928 : (Jvm.Cond.methodLink "RollingNetsLaw" (97 : Nat) ({ cls := "RollingNets", name := "lot", desc := "(IIII)I" } : Jvm.MethodName)) ∈ TBL := TBL_mem 928 (by decide +kernel) (by decide +kernel)
theorem tm_931 : (Jvm.Cond.code ({ cls := "RollingNets", name := "lot", desc := "(IIII)I" } : Jvm.MethodName) prog_1_method_24_code (7 : Nat) (Option.some Jvm.ClassFile.FieldType.int)) ∈ TBL := TBL_mem 931 (by decide +kernel) (by decide +kernel)
theorem tm_929 : (Jvm.Cond.instanceMethod ({ cls := "RollingNets", name := "lot", desc := "(IIII)I" } : Jvm.MethodName)) ∈ TBL := TBL_mem 929 (by decide +kernel) (by decide +kernel)
theorem tm_930 : (Jvm.Cond.selects "RollingNets" ({ cls := "RollingNets", name := "lot", desc := "(IIII)I" } : Jvm.MethodName) ({ cls := "RollingNets", name := "lot", desc := "(IIII)I" } : Jvm.MethodName)) ∈ TBL := TBL_mem 930 (by decide +kernel) (by decide +kernel)
theorem mv_Law_97 : MV "RollingNetsLaw" 97 yX8_lot cX8_lot 7 (some .int) 4 0 := ⟨⟨Or.inl tm_928, tm_111, tm_931, by decide +kernel⟩, tm_929, tm_930, _, _, rfl⟩
theorem tm_933 : (Jvm.Cond.methodLink "RollingNetsLaw" (102 : Nat) ({ cls := "RollingNets", name := "cash", desc := "(I)J" } : Jvm.MethodName)) ∈ TBL := TBL_mem 933 (by decide +kernel) (by decide +kernel)
theorem tm_936 : (Jvm.Cond.code ({ cls := "RollingNets", name := "cash", desc := "(I)J" } : Jvm.MethodName) prog_1_method_25_code (2 : Nat) (Option.some Jvm.ClassFile.FieldType.long)) ∈ TBL := TBL_mem 936 (by decide +kernel) (by decide +kernel)
theorem tm_934 : (Jvm.Cond.instanceMethod ({ cls := "RollingNets", name := "cash", desc := "(I)J" } : Jvm.MethodName)) ∈ TBL := TBL_mem 934 (by decide +kernel) (by decide +kernel)
theorem tm_935 : (Jvm.Cond.selects "RollingNets" ({ cls := "RollingNets", name := "cash", desc := "(I)J" } : Jvm.MethodName) ({ cls := "RollingNets", name := "cash", desc := "(I)J" } : Jvm.MethodName)) ∈ TBL := TBL_mem 935 (by decide +kernel) (by decide +kernel)
theorem mv_Law_102 : MV "RollingNetsLaw" 102 yX8_cash cX8_cash 2 (some .long) 1 0 := ⟨⟨Or.inl tm_933, tm_111, tm_936, by decide +kernel⟩, tm_934, tm_935, _, _, rfl⟩
theorem tm_937 : (Jvm.Cond.methodLink "RollingNetsLaw" (107 : Nat) ({ cls := "RollingNets", name := "deal", desc := "(II)I" } : Jvm.MethodName)) ∈ TBL := TBL_mem 937 (by decide +kernel) (by decide +kernel)
theorem tm_940 : (Jvm.Cond.code ({ cls := "RollingNets", name := "deal", desc := "(II)I" } : Jvm.MethodName) prog_1_method_26_code (3 : Nat) (Option.some Jvm.ClassFile.FieldType.int)) ∈ TBL := TBL_mem 940 (by decide +kernel) (by decide +kernel)
theorem tm_938 : (Jvm.Cond.instanceMethod ({ cls := "RollingNets", name := "deal", desc := "(II)I" } : Jvm.MethodName)) ∈ TBL := TBL_mem 938 (by decide +kernel) (by decide +kernel)
theorem tm_939 : (Jvm.Cond.selects "RollingNets" ({ cls := "RollingNets", name := "deal", desc := "(II)I" } : Jvm.MethodName) ({ cls := "RollingNets", name := "deal", desc := "(II)I" } : Jvm.MethodName)) ∈ TBL := TBL_mem 939 (by decide +kernel) (by decide +kernel)
theorem mv_Law_107 : MV "RollingNetsLaw" 107 yX8_deal cX8_deal 3 (some .int) 2 0 := ⟨⟨Or.inl tm_937, tm_111, tm_940, by decide +kernel⟩, tm_938, tm_939, _, _, rfl⟩
theorem tm_941 : (Jvm.Cond.methodLink "RollingNetsLaw" (112 : Nat) ({ cls := "RollingNets", name := "notice", desc := "(II)I" } : Jvm.MethodName)) ∈ TBL := TBL_mem 941 (by decide +kernel) (by decide +kernel)
theorem tm_944 : (Jvm.Cond.code ({ cls := "RollingNets", name := "notice", desc := "(II)I" } : Jvm.MethodName) prog_1_method_27_code (3 : Nat) (Option.some Jvm.ClassFile.FieldType.int)) ∈ TBL := TBL_mem 944 (by decide +kernel) (by decide +kernel)
theorem tm_942 : (Jvm.Cond.instanceMethod ({ cls := "RollingNets", name := "notice", desc := "(II)I" } : Jvm.MethodName)) ∈ TBL := TBL_mem 942 (by decide +kernel) (by decide +kernel)
theorem tm_943 : (Jvm.Cond.selects "RollingNets" ({ cls := "RollingNets", name := "notice", desc := "(II)I" } : Jvm.MethodName) ({ cls := "RollingNets", name := "notice", desc := "(II)I" } : Jvm.MethodName)) ∈ TBL := TBL_mem 943 (by decide +kernel) (by decide +kernel)
theorem mv_Law_112 : MV "RollingNetsLaw" 112 yX8_notice cX8_notice 3 (some .int) 2 0 := ⟨⟨Or.inl tm_941, tm_111, tm_944, by decide +kernel⟩, tm_942, tm_943, _, _, rfl⟩
theorem tm_945 : (Jvm.Cond.methodLink "RollingNetsLaw" (116 : Nat) ({ cls := "RollingNets", name := "issue", desc := "(II)I" } : Jvm.MethodName)) ∈ TBL := TBL_mem 945 (by decide +kernel) (by decide +kernel)
theorem tm_948 : (Jvm.Cond.code ({ cls := "RollingNets", name := "issue", desc := "(II)I" } : Jvm.MethodName) prog_1_method_28_code (3 : Nat) (Option.some Jvm.ClassFile.FieldType.int)) ∈ TBL := TBL_mem 948 (by decide +kernel) (by decide +kernel)
theorem tm_946 : (Jvm.Cond.instanceMethod ({ cls := "RollingNets", name := "issue", desc := "(II)I" } : Jvm.MethodName)) ∈ TBL := TBL_mem 946 (by decide +kernel) (by decide +kernel)
theorem tm_947 : (Jvm.Cond.selects "RollingNets" ({ cls := "RollingNets", name := "issue", desc := "(II)I" } : Jvm.MethodName) ({ cls := "RollingNets", name := "issue", desc := "(II)I" } : Jvm.MethodName)) ∈ TBL := TBL_mem 947 (by decide +kernel) (by decide +kernel)
theorem mv_Law_116 : MV "RollingNetsLaw" 116 yX8_issue cX8_issue 3 (some .int) 2 0 := ⟨⟨Or.inl tm_945, tm_111, tm_948, by decide +kernel⟩, tm_946, tm_947, _, _, rfl⟩
theorem tm_969 : (Jvm.Cond.methodLink "RollingNetsLaw" (120 : Nat) ({ cls := "RollingNets", name := "book", desc := "(II)I" } : Jvm.MethodName)) ∈ TBL := TBL_mem 969 (by decide +kernel) (by decide +kernel)
theorem tm_972 : (Jvm.Cond.code ({ cls := "RollingNets", name := "book", desc := "(II)I" } : Jvm.MethodName) prog_1_method_29_code (3 : Nat) (Option.some Jvm.ClassFile.FieldType.int)) ∈ TBL := TBL_mem 972 (by decide +kernel) (by decide +kernel)
theorem tm_970 : (Jvm.Cond.instanceMethod ({ cls := "RollingNets", name := "book", desc := "(II)I" } : Jvm.MethodName)) ∈ TBL := TBL_mem 970 (by decide +kernel) (by decide +kernel)
theorem tm_971 : (Jvm.Cond.selects "RollingNets" ({ cls := "RollingNets", name := "book", desc := "(II)I" } : Jvm.MethodName) ({ cls := "RollingNets", name := "book", desc := "(II)I" } : Jvm.MethodName)) ∈ TBL := TBL_mem 971 (by decide +kernel) (by decide +kernel)
theorem mv_Law_120 : MV "RollingNetsLaw" 120 yX8_book cX8_book 3 (some .int) 2 0 := ⟨⟨Or.inl tm_969, tm_111, tm_972, by decide +kernel⟩, tm_970, tm_971, _, _, rfl⟩
theorem tm_973 : (Jvm.Cond.methodLink "RollingNetsLaw" (124 : Nat) ({ cls := "RollingNets", name := "margin", desc := "(II)J" } : Jvm.MethodName)) ∈ TBL := TBL_mem 973 (by decide +kernel) (by decide +kernel)
theorem tm_976 : (Jvm.Cond.code ({ cls := "RollingNets", name := "margin", desc := "(II)J" } : Jvm.MethodName) prog_1_method_30_code (3 : Nat) (Option.some Jvm.ClassFile.FieldType.long)) ∈ TBL := TBL_mem 976 (by decide +kernel) (by decide +kernel)
theorem tm_974 : (Jvm.Cond.instanceMethod ({ cls := "RollingNets", name := "margin", desc := "(II)J" } : Jvm.MethodName)) ∈ TBL := TBL_mem 974 (by decide +kernel) (by decide +kernel)
theorem tm_975 : (Jvm.Cond.selects "RollingNets" ({ cls := "RollingNets", name := "margin", desc := "(II)J" } : Jvm.MethodName) ({ cls := "RollingNets", name := "margin", desc := "(II)J" } : Jvm.MethodName)) ∈ TBL := TBL_mem 975 (by decide +kernel) (by decide +kernel)
theorem mv_Law_124 : MV "RollingNetsLaw" 124 yX8_margin cX8_margin 3 (some .long) 2 0 := ⟨⟨Or.inl tm_973, tm_111, tm_976, by decide +kernel⟩, tm_974, tm_975, _, _, rfl⟩
theorem tm_990 : (Jvm.Cond.methodLink "RollingNetsLaw" (129 : Nat) ({ cls := "RollingNets", name := "stress", desc := "(I)I" } : Jvm.MethodName)) ∈ TBL := TBL_mem 990 (by decide +kernel) (by decide +kernel)
theorem tm_993 : (Jvm.Cond.code ({ cls := "RollingNets", name := "stress", desc := "(I)I" } : Jvm.MethodName) prog_1_method_31_code (2 : Nat) (Option.some Jvm.ClassFile.FieldType.int)) ∈ TBL := TBL_mem 993 (by decide +kernel) (by decide +kernel)
theorem tm_991 : (Jvm.Cond.instanceMethod ({ cls := "RollingNets", name := "stress", desc := "(I)I" } : Jvm.MethodName)) ∈ TBL := TBL_mem 991 (by decide +kernel) (by decide +kernel)
theorem tm_992 : (Jvm.Cond.selects "RollingNets" ({ cls := "RollingNets", name := "stress", desc := "(I)I" } : Jvm.MethodName) ({ cls := "RollingNets", name := "stress", desc := "(I)I" } : Jvm.MethodName)) ∈ TBL := TBL_mem 992 (by decide +kernel) (by decide +kernel)
theorem mv_Law_129 : MV "RollingNetsLaw" 129 yX8_stress cX8_stress 2 (some .int) 1 0 := ⟨⟨Or.inl tm_990, tm_111, tm_993, by decide +kernel⟩, tm_991, tm_992, _, _, rfl⟩
theorem tm_997 : (Jvm.Cond.methodLink "RollingNetsLaw" (133 : Nat) ({ cls := "RollingNets", name := "queue", desc := "(III)I" } : Jvm.MethodName)) ∈ TBL := TBL_mem 997 (by decide +kernel) (by decide +kernel)
theorem tm_1000 : (Jvm.Cond.code ({ cls := "RollingNets", name := "queue", desc := "(III)I" } : Jvm.MethodName) prog_1_method_32_code (5 : Nat) (Option.some Jvm.ClassFile.FieldType.int)) ∈ TBL := TBL_mem 1000 (by decide +kernel) (by decide +kernel)
theorem tm_998 : (Jvm.Cond.instanceMethod ({ cls := "RollingNets", name := "queue", desc := "(III)I" } : Jvm.MethodName)) ∈ TBL := TBL_mem 998 (by decide +kernel) (by decide +kernel)
theorem tm_999 : (Jvm.Cond.selects "RollingNets" ({ cls := "RollingNets", name := "queue", desc := "(III)I" } : Jvm.MethodName) ({ cls := "RollingNets", name := "queue", desc := "(III)I" } : Jvm.MethodName)) ∈ TBL := TBL_mem 999 (by decide +kernel) (by decide +kernel)
theorem mv_Law_133 : MV "RollingNetsLaw" 133 yX8_queue cX8_queue 5 (some .int) 3 0 := ⟨⟨Or.inl tm_997, tm_111, tm_1000, by decide +kernel⟩, tm_998, tm_999, _, _, rfl⟩
theorem tm_1002 : (Jvm.Cond.methodLink "RollingNetsLaw" (137 : Nat) ({ cls := "RollingNets", name := "aged", desc := "(II)I" } : Jvm.MethodName)) ∈ TBL := TBL_mem 1002 (by decide +kernel) (by decide +kernel)
theorem tm_1005 : (Jvm.Cond.code ({ cls := "RollingNets", name := "aged", desc := "(II)I" } : Jvm.MethodName) prog_1_method_33_code (3 : Nat) (Option.some Jvm.ClassFile.FieldType.int)) ∈ TBL := TBL_mem 1005 (by decide +kernel) (by decide +kernel)
theorem tm_1003 : (Jvm.Cond.instanceMethod ({ cls := "RollingNets", name := "aged", desc := "(II)I" } : Jvm.MethodName)) ∈ TBL := TBL_mem 1003 (by decide +kernel) (by decide +kernel)
theorem tm_1004 : (Jvm.Cond.selects "RollingNets" ({ cls := "RollingNets", name := "aged", desc := "(II)I" } : Jvm.MethodName) ({ cls := "RollingNets", name := "aged", desc := "(II)I" } : Jvm.MethodName)) ∈ TBL := TBL_mem 1004 (by decide +kernel) (by decide +kernel)
theorem mv_Law_137 : MV "RollingNetsLaw" 137 yX8_aged cX8_aged 3 (some .int) 2 0 := ⟨⟨Or.inl tm_1002, tm_111, tm_1005, by decide +kernel⟩, tm_1003, tm_1004, _, _, rfl⟩
theorem tm_1010 : (Jvm.Cond.methodLink "RollingNetsLaw" (141 : Nat) ({ cls := "RollingNets", name := "statement", desc := "(IIZ)I" } : Jvm.MethodName)) ∈ TBL := TBL_mem 1010 (by decide +kernel) (by decide +kernel)
theorem tm_1013 : (Jvm.Cond.code ({ cls := "RollingNets", name := "statement", desc := "(IIZ)I" } : Jvm.MethodName) prog_1_method_34_code (4 : Nat) (Option.some Jvm.ClassFile.FieldType.int)) ∈ TBL := TBL_mem 1013 (by decide +kernel) (by decide +kernel)
theorem tm_1011 : (Jvm.Cond.instanceMethod ({ cls := "RollingNets", name := "statement", desc := "(IIZ)I" } : Jvm.MethodName)) ∈ TBL := TBL_mem 1011 (by decide +kernel) (by decide +kernel)
theorem tm_1012 : (Jvm.Cond.selects "RollingNets" ({ cls := "RollingNets", name := "statement", desc := "(IIZ)I" } : Jvm.MethodName) ({ cls := "RollingNets", name := "statement", desc := "(IIZ)I" } : Jvm.MethodName)) ∈ TBL := TBL_mem 1012 (by decide +kernel) (by decide +kernel)
theorem mv_Law_141 : MV "RollingNetsLaw" 141 yX8_statement cX8_statement 4 (some .int) 3 0 := ⟨⟨Or.inl tm_1010, tm_111, tm_1013, by decide +kernel⟩, tm_1011, tm_1012, _, _, rfl⟩
theorem tm_1017 : (Jvm.Cond.methodLink "RollingNetsLaw" (146 : Nat) ({ cls := "RollingNets", name := "tomorrow", desc := "(III)I" } : Jvm.MethodName)) ∈ TBL := TBL_mem 1017 (by decide +kernel) (by decide +kernel)
theorem tm_1020 : (Jvm.Cond.code ({ cls := "RollingNets", name := "tomorrow", desc := "(III)I" } : Jvm.MethodName) prog_1_method_35_code (4 : Nat) (Option.some Jvm.ClassFile.FieldType.int)) ∈ TBL := TBL_mem 1020 (by decide +kernel) (by decide +kernel)
theorem tm_1018 : (Jvm.Cond.instanceMethod ({ cls := "RollingNets", name := "tomorrow", desc := "(III)I" } : Jvm.MethodName)) ∈ TBL := TBL_mem 1018 (by decide +kernel) (by decide +kernel)
theorem tm_1019 : (Jvm.Cond.selects "RollingNets" ({ cls := "RollingNets", name := "tomorrow", desc := "(III)I" } : Jvm.MethodName) ({ cls := "RollingNets", name := "tomorrow", desc := "(III)I" } : Jvm.MethodName)) ∈ TBL := TBL_mem 1019 (by decide +kernel) (by decide +kernel)
theorem mv_Law_146 : MV "RollingNetsLaw" 146 yX8_tomorrow cX8_tomorrow 4 (some .int) 3 0 := ⟨⟨Or.inl tm_1017, tm_111, tm_1020, by decide +kernel⟩, tm_1018, tm_1019, _, _, rfl⟩
theorem tm_1021 : (Jvm.Cond.methodLink "RollingNetsLaw" (150 : Nat) ({ cls := "RollingNets", name := "ahead", desc := "(II)I" } : Jvm.MethodName)) ∈ TBL := TBL_mem 1021 (by decide +kernel) (by decide +kernel)
theorem tm_1024 : (Jvm.Cond.code ({ cls := "RollingNets", name := "ahead", desc := "(II)I" } : Jvm.MethodName) prog_1_method_36_code (3 : Nat) (Option.some Jvm.ClassFile.FieldType.int)) ∈ TBL := TBL_mem 1024 (by decide +kernel) (by decide +kernel)
theorem tm_1022 : (Jvm.Cond.instanceMethod ({ cls := "RollingNets", name := "ahead", desc := "(II)I" } : Jvm.MethodName)) ∈ TBL := TBL_mem 1022 (by decide +kernel) (by decide +kernel)
theorem tm_1023 : (Jvm.Cond.selects "RollingNets" ({ cls := "RollingNets", name := "ahead", desc := "(II)I" } : Jvm.MethodName) ({ cls := "RollingNets", name := "ahead", desc := "(II)I" } : Jvm.MethodName)) ∈ TBL := TBL_mem 1023 (by decide +kernel) (by decide +kernel)
theorem mv_Law_150 : MV "RollingNetsLaw" 150 yX8_ahead cX8_ahead 3 (some .int) 2 0 := ⟨⟨Or.inl tm_1021, tm_111, tm_1024, by decide +kernel⟩, tm_1022, tm_1023, _, _, rfl⟩
theorem tm_1030 : (Jvm.Cond.methodLink "RollingNetsLaw" (154 : Nat) ({ cls := "RollingNets", name := "reached", desc := "(II)I" } : Jvm.MethodName)) ∈ TBL := TBL_mem 1030 (by decide +kernel) (by decide +kernel)
theorem tm_1033 : (Jvm.Cond.code ({ cls := "RollingNets", name := "reached", desc := "(II)I" } : Jvm.MethodName) prog_1_method_37_code (4 : Nat) (Option.some Jvm.ClassFile.FieldType.int)) ∈ TBL := TBL_mem 1033 (by decide +kernel) (by decide +kernel)
theorem tm_1031 : (Jvm.Cond.instanceMethod ({ cls := "RollingNets", name := "reached", desc := "(II)I" } : Jvm.MethodName)) ∈ TBL := TBL_mem 1031 (by decide +kernel) (by decide +kernel)
theorem tm_1032 : (Jvm.Cond.selects "RollingNets" ({ cls := "RollingNets", name := "reached", desc := "(II)I" } : Jvm.MethodName) ({ cls := "RollingNets", name := "reached", desc := "(II)I" } : Jvm.MethodName)) ∈ TBL := TBL_mem 1032 (by decide +kernel) (by decide +kernel)
theorem mv_Law_154 : MV "RollingNetsLaw" 154 yX8_reached cX8_reached 4 (some .int) 2 0 := ⟨⟨Or.inl tm_1030, tm_111, tm_1033, by decide +kernel⟩, tm_1031, tm_1032, _, _, rfl⟩
theorem tm_1036 : (Jvm.Cond.methodLink "RollingNetsLaw" (163 : Nat) ({ cls := "RollingNets", name := "look", desc := "(I)I" } : Jvm.MethodName)) ∈ TBL := TBL_mem 1036 (by decide +kernel) (by decide +kernel)
theorem tm_1039 : (Jvm.Cond.code ({ cls := "RollingNets", name := "look", desc := "(I)I" } : Jvm.MethodName) prog_1_method_38_code (2 : Nat) (Option.some Jvm.ClassFile.FieldType.int)) ∈ TBL := TBL_mem 1039 (by decide +kernel) (by decide +kernel)
theorem tm_1037 : (Jvm.Cond.instanceMethod ({ cls := "RollingNets", name := "look", desc := "(I)I" } : Jvm.MethodName)) ∈ TBL := TBL_mem 1037 (by decide +kernel) (by decide +kernel)
theorem tm_1038 : (Jvm.Cond.selects "RollingNets" ({ cls := "RollingNets", name := "look", desc := "(I)I" } : Jvm.MethodName) ({ cls := "RollingNets", name := "look", desc := "(I)I" } : Jvm.MethodName)) ∈ TBL := TBL_mem 1038 (by decide +kernel) (by decide +kernel)
theorem mv_Law_163 : MV "RollingNetsLaw" 163 yX8_look cX8_look 2 (some .int) 1 0 := ⟨⟨Or.inl tm_1036, tm_111, tm_1039, by decide +kernel⟩, tm_1037, tm_1038, _, _, rfl⟩
theorem tm_1158 : (Jvm.Cond.methodLink "RollingNetsLaw" (17 : Nat) ({ cls := "RollingNetsModel", name := "set", desc := "(II)Z" } : Jvm.MethodName)) ∈ TBL := TBL_mem 1158 (by decide +kernel) (by decide +kernel)
theorem tm_1161 : (Jvm.Cond.code ({ cls := "RollingNetsModel", name := "set", desc := "(II)Z" } : Jvm.MethodName) prog_11_method_20_code (3 : Nat) (Option.some Jvm.ClassFile.FieldType.boolean)) ∈ TBL := TBL_mem 1161 (by decide +kernel) (by decide +kernel)
theorem tm_1159 : (Jvm.Cond.instanceMethod ({ cls := "RollingNetsModel", name := "set", desc := "(II)Z" } : Jvm.MethodName)) ∈ TBL := TBL_mem 1159 (by decide +kernel) (by decide +kernel)
theorem tm_1160 : (Jvm.Cond.selects "RollingNetsModel" ({ cls := "RollingNetsModel", name := "set", desc := "(II)Z" } : Jvm.MethodName) ({ cls := "RollingNetsModel", name := "set", desc := "(II)Z" } : Jvm.MethodName)) ∈ TBL := TBL_mem 1160 (by decide +kernel) (by decide +kernel)
theorem mv_Law_17 : MV "RollingNetsLaw" 17 yX9_set cX9_set 3 (some .boolean) 2 6 := ⟨⟨Or.inl tm_1158, tm_118, tm_1161, by decide +kernel⟩, tm_1159, tm_1160, _, _, rfl⟩
theorem tm_1174 : (Jvm.Cond.methodLink "RollingNetsLaw" (22 : Nat) ({ cls := "RollingNetsModel", name := "tell", desc := "(IIII)Z" } : Jvm.MethodName)) ∈ TBL := TBL_mem 1174 (by decide +kernel) (by decide +kernel)
theorem mv_Law_22 : MV "RollingNetsLaw" 22 yX9_tell cX9_tell 5 (some .boolean) 4 6 := ⟨⟨Or.inl tm_1174, tm_118, tm_1177, by decide +kernel⟩, tm_1175, tm_1176, _, _, rfl⟩
theorem tm_1195 : (Jvm.Cond.methodLink "RollingNetsLaw" (26 : Nat) ({ cls := "RollingNetsModel", name := "price", desc := "(II)Z" } : Jvm.MethodName)) ∈ TBL := TBL_mem 1195 (by decide +kernel) (by decide +kernel)
theorem mv_Law_26 : MV "RollingNetsLaw" 26 yX9_price cX9_price 3 (some .boolean) 2 6 := ⟨⟨Or.inl tm_1195, tm_118, tm_1198, by decide +kernel⟩, tm_1196, tm_1197, _, _, rfl⟩
theorem tm_1199 : (Jvm.Cond.methodLink "RollingNetsLaw" (39 : Nat) ({ cls := "RollingNetsModel", name := "dividend", desc := "(II)Z" } : Jvm.MethodName)) ∈ TBL := TBL_mem 1199 (by decide +kernel) (by decide +kernel)
theorem tm_1202 : (Jvm.Cond.code ({ cls := "RollingNetsModel", name := "dividend", desc := "(II)Z" } : Jvm.MethodName) prog_11_method_23_code (3 : Nat) (Option.some Jvm.ClassFile.FieldType.boolean)) ∈ TBL := TBL_mem 1202 (by decide +kernel) (by decide +kernel)
theorem tm_1200 : (Jvm.Cond.instanceMethod ({ cls := "RollingNetsModel", name := "dividend", desc := "(II)Z" } : Jvm.MethodName)) ∈ TBL := TBL_mem 1200 (by decide +kernel) (by decide +kernel)
theorem tm_1201 : (Jvm.Cond.selects "RollingNetsModel" ({ cls := "RollingNetsModel", name := "dividend", desc := "(II)Z" } : Jvm.MethodName) ({ cls := "RollingNetsModel", name := "dividend", desc := "(II)Z" } : Jvm.MethodName)) ∈ TBL := TBL_mem 1201 (by decide +kernel) (by decide +kernel)
theorem mv_Law_39 : MV "RollingNetsLaw" 39 yX9_dividend cX9_dividend 3 (some .boolean) 2 6 := ⟨⟨Or.inl tm_1199, tm_118, tm_1202, by decide +kernel⟩, tm_1200, tm_1201, _, _, rfl⟩
theorem tm_1203 : (Jvm.Cond.methodLink "RollingNetsLaw" (43 : Nat) ({ cls := "RollingNetsModel", name := "move", desc := "(IIII)Z" } : Jvm.MethodName)) ∈ TBL := TBL_mem 1203 (by decide +kernel) (by decide +kernel)
theorem tm_1206 : (Jvm.Cond.code ({ cls := "RollingNetsModel", name := "move", desc := "(IIII)Z" } : Jvm.MethodName) prog_11_method_24_code (5 : Nat) (Option.some Jvm.ClassFile.FieldType.boolean)) ∈ TBL := TBL_mem 1206 (by decide +kernel) (by decide +kernel)
theorem tm_1204 : (Jvm.Cond.instanceMethod ({ cls := "RollingNetsModel", name := "move", desc := "(IIII)Z" } : Jvm.MethodName)) ∈ TBL := TBL_mem 1204 (by decide +kernel) (by decide +kernel)
theorem tm_1205 : (Jvm.Cond.selects "RollingNetsModel" ({ cls := "RollingNetsModel", name := "move", desc := "(IIII)Z" } : Jvm.MethodName) ({ cls := "RollingNetsModel", name := "move", desc := "(IIII)Z" } : Jvm.MethodName)) ∈ TBL := TBL_mem 1205 (by decide +kernel) (by decide +kernel)
theorem mv_Law_43 : MV "RollingNetsLaw" 43 yX9_move cX9_move 5 (some .boolean) 4 6 := ⟨⟨Or.inl tm_1203, tm_118, tm_1206, by decide +kernel⟩, tm_1204, tm_1205, _, _, rfl⟩
theorem tm_1227 : (Jvm.Cond.methodLink "RollingNetsLaw" (52 : Nat) ({ cls := "RollingNetsModel", name := "suspend", desc := "(IZ)Z" } : Jvm.MethodName)) ∈ TBL := TBL_mem 1227 (by decide +kernel) (by decide +kernel)
theorem tm_1230 : (Jvm.Cond.code ({ cls := "RollingNetsModel", name := "suspend", desc := "(IZ)Z" } : Jvm.MethodName) prog_11_method_25_code (3 : Nat) (Option.some Jvm.ClassFile.FieldType.boolean)) ∈ TBL := TBL_mem 1230 (by decide +kernel) (by decide +kernel)
theorem tm_1228 : (Jvm.Cond.instanceMethod ({ cls := "RollingNetsModel", name := "suspend", desc := "(IZ)Z" } : Jvm.MethodName)) ∈ TBL := TBL_mem 1228 (by decide +kernel) (by decide +kernel)
theorem tm_1229 : (Jvm.Cond.selects "RollingNetsModel" ({ cls := "RollingNetsModel", name := "suspend", desc := "(IZ)Z" } : Jvm.MethodName) ({ cls := "RollingNetsModel", name := "suspend", desc := "(IZ)Z" } : Jvm.MethodName)) ∈ TBL := TBL_mem 1229 (by decide +kernel) (by decide +kernel)
theorem mv_Law_52 : MV "RollingNetsLaw" 52 yX9_suspend cX9_suspend 3 (some .boolean) 2 6 := ⟨⟨Or.inl tm_1227, tm_118, tm_1230, by decide +kernel⟩, tm_1228, tm_1229, _, _, rfl⟩
theorem tm_1231 : (Jvm.Cond.methodLink "RollingNetsLaw" (56 : Nat) ({ cls := "RollingNetsModel", name := "collateral", desc := "(II)Z" } : Jvm.MethodName)) ∈ TBL := TBL_mem 1231 (by decide +kernel) (by decide +kernel)
theorem tm_1234 : (Jvm.Cond.code ({ cls := "RollingNetsModel", name := "collateral", desc := "(II)Z" } : Jvm.MethodName) prog_11_method_26_code (3 : Nat) (Option.some Jvm.ClassFile.FieldType.boolean)) ∈ TBL := TBL_mem 1234 (by decide +kernel) (by decide +kernel)
theorem tm_1232 : (Jvm.Cond.instanceMethod ({ cls := "RollingNetsModel", name := "collateral", desc := "(II)Z" } : Jvm.MethodName)) ∈ TBL := TBL_mem 1232 (by decide +kernel) (by decide +kernel)
theorem tm_1233 : (Jvm.Cond.selects "RollingNetsModel" ({ cls := "RollingNetsModel", name := "collateral", desc := "(II)Z" } : Jvm.MethodName) ({ cls := "RollingNetsModel", name := "collateral", desc := "(II)Z" } : Jvm.MethodName)) ∈ TBL := TBL_mem 1233 (by decide +kernel) (by decide +kernel)
theorem mv_Law_56 : MV "RollingNetsLaw" 56 yX9_collateral cX9_collateral 3 (some .boolean) 2 6 := ⟨⟨Or.inl tm_1231, tm_118, tm_1234, by decide +kernel⟩, tm_1232, tm_1233, _, _, rfl⟩
theorem tm_1236 : (Jvm.Cond.methodLink "RollingNetsLaw" (31 : Nat) ({ cls := "RollingNetsModel", name := "trade", desc := "(IIIII)I" } : Jvm.MethodName)) ∈ TBL := TBL_mem 1236 (by decide +kernel) (by decide +kernel)
theorem tm_1239 : (Jvm.Cond.code ({ cls := "RollingNetsModel", name := "trade", desc := "(IIIII)I" } : Jvm.MethodName) prog_11_method_44_code (6 : Nat) (Option.some Jvm.ClassFile.FieldType.int)) ∈ TBL := TBL_mem 1239 (by decide +kernel) (by decide +kernel)
theorem tm_1237 : (Jvm.Cond.instanceMethod ({ cls := "RollingNetsModel", name := "trade", desc := "(IIIII)I" } : Jvm.MethodName)) ∈ TBL := TBL_mem 1237 (by decide +kernel) (by decide +kernel)
theorem tm_1238 : (Jvm.Cond.selects "RollingNetsModel" ({ cls := "RollingNetsModel", name := "trade", desc := "(IIIII)I" } : Jvm.MethodName) ({ cls := "RollingNetsModel", name := "trade", desc := "(IIIII)I" } : Jvm.MethodName)) ∈ TBL := TBL_mem 1238 (by decide +kernel) (by decide +kernel)
theorem mv_Law_31 : MV "RollingNetsLaw" 31 yX9_trade cX9_trade 6 (some .int) 5 6 := ⟨⟨Or.inl tm_1236, tm_118, tm_1239, by decide +kernel⟩, tm_1237, tm_1238, _, _, rfl⟩
theorem tm_1252 : (Jvm.Cond.methodLink "RollingNetsLaw" (35 : Nat) ({ cls := "RollingNetsModel", name := "apart", desc := "(IIIII)I" } : Jvm.MethodName)) ∈ TBL := TBL_mem 1252 (by decide +kernel) (by decide +kernel)
theorem tm_1255 : (Jvm.Cond.code ({ cls := "RollingNetsModel", name := "apart", desc := "(IIIII)I" } : Jvm.MethodName) prog_11_method_45_code (6 : Nat) (Option.some Jvm.ClassFile.FieldType.int)) ∈ TBL := TBL_mem 1255 (by decide +kernel) (by decide +kernel)
theorem tm_1253 : (Jvm.Cond.instanceMethod ({ cls := "RollingNetsModel", name := "apart", desc := "(IIIII)I" } : Jvm.MethodName)) ∈ TBL := TBL_mem 1253 (by decide +kernel) (by decide +kernel)
theorem tm_1254 : (Jvm.Cond.selects "RollingNetsModel" ({ cls := "RollingNetsModel", name := "apart", desc := "(IIIII)I" } : Jvm.MethodName) ({ cls := "RollingNetsModel", name := "apart", desc := "(IIIII)I" } : Jvm.MethodName)) ∈ TBL := TBL_mem 1254 (by decide +kernel) (by decide +kernel)
theorem mv_Law_35 : MV "RollingNetsLaw" 35 yX9_apart cX9_apart 6 (some .int) 5 6 := ⟨⟨Or.inl tm_1252, tm_118, tm_1255, by decide +kernel⟩, tm_1253, tm_1254, _, _, rfl⟩
theorem tm_1256 : (Jvm.Cond.methodLink "RollingNetsLaw" (66 : Nat) ({ cls := "RollingNetsModel", name := "give", desc := "(III)I" } : Jvm.MethodName)) ∈ TBL := TBL_mem 1256 (by decide +kernel) (by decide +kernel)
theorem mv_Law_66 : MV "RollingNetsLaw" 66 yX9_give cX9_give 10 (some .int) 3 6 := ⟨⟨Or.inl tm_1256, tm_118, tm_1259, by decide +kernel⟩, tm_1257, tm_1258, _, _, rfl⟩
theorem tm_1328 : (Jvm.Cond.methodLink "RollingNetsLaw" (70 : Nat) ({ cls := "RollingNetsModel", name := "call", desc := "(I)I" } : Jvm.MethodName)) ∈ TBL := TBL_mem 1328 (by decide +kernel) (by decide +kernel)
theorem mv_Law_70 : MV "RollingNetsLaw" 70 yX9_call cX9_call 2 (some .int) 1 6 := ⟨⟨Or.inl tm_1328, tm_118, tm_1331, by decide +kernel⟩, tm_1329, tm_1330, _, _, rfl⟩
theorem tm_1348 : (Jvm.Cond.methodLink "RollingNetsLaw" (157 : Nat) ({ cls := "RollingNetsModel", name := "reached", desc := "(II)I" } : Jvm.MethodName)) ∈ TBL := TBL_mem 1348 (by decide +kernel) (by decide +kernel)
theorem tm_1351 : (Jvm.Cond.code ({ cls := "RollingNetsModel", name := "reached", desc := "(II)I" } : Jvm.MethodName) prog_11_method_67_code (3 : Nat) (Option.some Jvm.ClassFile.FieldType.int)) ∈ TBL := TBL_mem 1351 (by decide +kernel) (by decide +kernel)
theorem tm_1349 : (Jvm.Cond.instanceMethod ({ cls := "RollingNetsModel", name := "reached", desc := "(II)I" } : Jvm.MethodName)) ∈ TBL := TBL_mem 1349 (by decide +kernel) (by decide +kernel)
theorem tm_1350 : (Jvm.Cond.selects "RollingNetsModel" ({ cls := "RollingNetsModel", name := "reached", desc := "(II)I" } : Jvm.MethodName) ({ cls := "RollingNetsModel", name := "reached", desc := "(II)I" } : Jvm.MethodName)) ∈ TBL := TBL_mem 1350 (by decide +kernel) (by decide +kernel)
theorem mv_Law_157 : MV "RollingNetsLaw" 157 yX9_reached cX9_reached 3 (some .int) 2 6 := ⟨⟨Or.inl tm_1348, tm_118, tm_1351, by decide +kernel⟩, tm_1349, tm_1350, _, _, rfl⟩
theorem tm_1364 : (Jvm.Cond.methodLink "RollingNetsLaw" (61 : Nat) ({ cls := "RollingNetsModel", name := "night", desc := "(I)I" } : Jvm.MethodName)) ∈ TBL := TBL_mem 1364 (by decide +kernel) (by decide +kernel)
theorem mv_Law_61 : MV "RollingNetsLaw" 61 yX9_night cX9_night 3 (some .int) 1 6 := ⟨⟨Or.inl tm_1364, tm_118, tm_1367, by decide +kernel⟩, tm_1365, tm_1366, _, _, rfl⟩
theorem tm_1489 : (Jvm.Cond.methodLink "RollingNetsLaw" (47 : Nat) ({ cls := "RollingNetsModel", name := "split", desc := "(II)Z" } : Jvm.MethodName)) ∈ TBL := TBL_mem 1489 (by decide +kernel) (by decide +kernel)
theorem tm_1492 : (Jvm.Cond.code ({ cls := "RollingNetsModel", name := "split", desc := "(II)Z" } : Jvm.MethodName) prog_11_method_88_code (5 : Nat) (Option.some Jvm.ClassFile.FieldType.boolean)) ∈ TBL := TBL_mem 1492 (by decide +kernel) (by decide +kernel)
theorem tm_1490 : (Jvm.Cond.instanceMethod ({ cls := "RollingNetsModel", name := "split", desc := "(II)Z" } : Jvm.MethodName)) ∈ TBL := TBL_mem 1490 (by decide +kernel) (by decide +kernel)
theorem tm_1491 : (Jvm.Cond.selects "RollingNetsModel" ({ cls := "RollingNetsModel", name := "split", desc := "(II)Z" } : Jvm.MethodName) ({ cls := "RollingNetsModel", name := "split", desc := "(II)Z" } : Jvm.MethodName)) ∈ TBL := TBL_mem 1491 (by decide +kernel) (by decide +kernel)
theorem mv_Law_47 : MV "RollingNetsLaw" 47 yX9_split cX9_split 5 (some .boolean) 2 6 := ⟨⟨Or.inl tm_1489, tm_118, tm_1492, by decide +kernel⟩, tm_1490, tm_1491, _, _, rfl⟩
theorem tm_1506 : (Jvm.Cond.methodLink "RollingNetsLaw" (128 : Nat) ({ cls := "RollingNetsModel", name := "margin", desc := "(II)J" } : Jvm.MethodName)) ∈ TBL := TBL_mem 1506 (by decide +kernel) (by decide +kernel)
theorem tm_1509 : (Jvm.Cond.code ({ cls := "RollingNetsModel", name := "margin", desc := "(II)J" } : Jvm.MethodName) prog_11_method_91_code (3 : Nat) (Option.some Jvm.ClassFile.FieldType.long)) ∈ TBL := TBL_mem 1509 (by decide +kernel) (by decide +kernel)
theorem tm_1507 : (Jvm.Cond.instanceMethod ({ cls := "RollingNetsModel", name := "margin", desc := "(II)J" } : Jvm.MethodName)) ∈ TBL := TBL_mem 1507 (by decide +kernel) (by decide +kernel)
theorem tm_1508 : (Jvm.Cond.selects "RollingNetsModel" ({ cls := "RollingNetsModel", name := "margin", desc := "(II)J" } : Jvm.MethodName) ({ cls := "RollingNetsModel", name := "margin", desc := "(II)J" } : Jvm.MethodName)) ∈ TBL := TBL_mem 1508 (by decide +kernel) (by decide +kernel)
theorem mv_Law_128 : MV "RollingNetsLaw" 128 yX9_margin cX9_margin 3 (some .long) 2 6 := ⟨⟨Or.inl tm_1506, tm_118, tm_1509, by decide +kernel⟩, tm_1507, tm_1508, _, _, rfl⟩
theorem tm_1520 : (Jvm.Cond.methodLink "RollingNetsLaw" (132 : Nat) ({ cls := "RollingNetsModel", name := "stress", desc := "(I)I" } : Jvm.MethodName)) ∈ TBL := TBL_mem 1520 (by decide +kernel) (by decide +kernel)
theorem tm_1523 : (Jvm.Cond.code ({ cls := "RollingNetsModel", name := "stress", desc := "(I)I" } : Jvm.MethodName) prog_11_method_92_code (7 : Nat) (Option.some Jvm.ClassFile.FieldType.int)) ∈ TBL := TBL_mem 1523 (by decide +kernel) (by decide +kernel)
theorem tm_1521 : (Jvm.Cond.instanceMethod ({ cls := "RollingNetsModel", name := "stress", desc := "(I)I" } : Jvm.MethodName)) ∈ TBL := TBL_mem 1521 (by decide +kernel) (by decide +kernel)
theorem tm_1522 : (Jvm.Cond.selects "RollingNetsModel" ({ cls := "RollingNetsModel", name := "stress", desc := "(I)I" } : Jvm.MethodName) ({ cls := "RollingNetsModel", name := "stress", desc := "(I)I" } : Jvm.MethodName)) ∈ TBL := TBL_mem 1522 (by decide +kernel) (by decide +kernel)
theorem mv_Law_132 : MV "RollingNetsLaw" 132 yX9_stress cX9_stress 7 (some .int) 1 6 := ⟨⟨Or.inl tm_1520, tm_118, tm_1523, by decide +kernel⟩, tm_1521, tm_1522, _, _, rfl⟩
theorem tm_1524 : (Jvm.Cond.methodLink "RollingNetsLaw" (96 : Nat) ({ cls := "RollingNetsModel", name := "at", desc := "(III)I" } : Jvm.MethodName)) ∈ TBL := TBL_mem 1524 (by decide +kernel) (by decide +kernel)
theorem tm_1527 : (Jvm.Cond.code ({ cls := "RollingNetsModel", name := "at", desc := "(III)I" } : Jvm.MethodName) prog_11_method_94_code (4 : Nat) (Option.some Jvm.ClassFile.FieldType.int)) ∈ TBL := TBL_mem 1527 (by decide +kernel) (by decide +kernel)
theorem tm_1525 : (Jvm.Cond.instanceMethod ({ cls := "RollingNetsModel", name := "at", desc := "(III)I" } : Jvm.MethodName)) ∈ TBL := TBL_mem 1525 (by decide +kernel) (by decide +kernel)
theorem tm_1526 : (Jvm.Cond.selects "RollingNetsModel" ({ cls := "RollingNetsModel", name := "at", desc := "(III)I" } : Jvm.MethodName) ({ cls := "RollingNetsModel", name := "at", desc := "(III)I" } : Jvm.MethodName)) ∈ TBL := TBL_mem 1526 (by decide +kernel) (by decide +kernel)
theorem mv_Law_96 : MV "RollingNetsLaw" 96 yX9_at cX9_at 4 (some .int) 3 6 := ⟨⟨Or.inl tm_1524, tm_118, tm_1527, by decide +kernel⟩, tm_1525, tm_1526, _, _, rfl⟩
theorem tm_1533 : (Jvm.Cond.methodLink "RollingNetsLaw" (149 : Nat) ({ cls := "RollingNetsModel", name := "tomorrow", desc := "(III)I" } : Jvm.MethodName)) ∈ TBL := TBL_mem 1533 (by decide +kernel) (by decide +kernel)
theorem tm_1536 : (Jvm.Cond.code ({ cls := "RollingNetsModel", name := "tomorrow", desc := "(III)I" } : Jvm.MethodName) prog_11_method_95_code (6 : Nat) (Option.some Jvm.ClassFile.FieldType.int)) ∈ TBL := TBL_mem 1536 (by decide +kernel) (by decide +kernel)
theorem tm_1534 : (Jvm.Cond.instanceMethod ({ cls := "RollingNetsModel", name := "tomorrow", desc := "(III)I" } : Jvm.MethodName)) ∈ TBL := TBL_mem 1534 (by decide +kernel) (by decide +kernel)
theorem tm_1535 : (Jvm.Cond.selects "RollingNetsModel" ({ cls := "RollingNetsModel", name := "tomorrow", desc := "(III)I" } : Jvm.MethodName) ({ cls := "RollingNetsModel", name := "tomorrow", desc := "(III)I" } : Jvm.MethodName)) ∈ TBL := TBL_mem 1535 (by decide +kernel) (by decide +kernel)
theorem mv_Law_149 : MV "RollingNetsLaw" 149 yX9_tomorrow cX9_tomorrow 6 (some .int) 3 6 := ⟨⟨Or.inl tm_1533, tm_118, tm_1536, by decide +kernel⟩, tm_1534, tm_1535, _, _, rfl⟩
theorem tm_1537 : (Jvm.Cond.methodLink "RollingNetsLaw" (101 : Nat) ({ cls := "RollingNetsModel", name := "lot", desc := "(IIII)I" } : Jvm.MethodName)) ∈ TBL := TBL_mem 1537 (by decide +kernel) (by decide +kernel)
theorem tm_1540 : (Jvm.Cond.code ({ cls := "RollingNetsModel", name := "lot", desc := "(IIII)I" } : Jvm.MethodName) prog_11_method_96_code (5 : Nat) (Option.some Jvm.ClassFile.FieldType.int)) ∈ TBL := TBL_mem 1540 (by decide +kernel) (by decide +kernel)
theorem tm_1538 : (Jvm.Cond.instanceMethod ({ cls := "RollingNetsModel", name := "lot", desc := "(IIII)I" } : Jvm.MethodName)) ∈ TBL := TBL_mem 1538 (by decide +kernel) (by decide +kernel)
theorem tm_1539 : (Jvm.Cond.selects "RollingNetsModel" ({ cls := "RollingNetsModel", name := "lot", desc := "(IIII)I" } : Jvm.MethodName) ({ cls := "RollingNetsModel", name := "lot", desc := "(IIII)I" } : Jvm.MethodName)) ∈ TBL := TBL_mem 1539 (by decide +kernel) (by decide +kernel)
theorem mv_Law_101 : MV "RollingNetsLaw" 101 yX9_lot cX9_lot 5 (some .int) 4 6 := ⟨⟨Or.inl tm_1537, tm_118, tm_1540, by decide +kernel⟩, tm_1538, tm_1539, _, _, rfl⟩
theorem tm_1541 : (Jvm.Cond.methodLink "RollingNetsLaw" (106 : Nat) ({ cls := "RollingNetsModel", name := "cash", desc := "(I)J" } : Jvm.MethodName)) ∈ TBL := TBL_mem 1541 (by decide +kernel) (by decide +kernel)
theorem tm_1544 : (Jvm.Cond.code ({ cls := "RollingNetsModel", name := "cash", desc := "(I)J" } : Jvm.MethodName) prog_11_method_97_code (2 : Nat) (Option.some Jvm.ClassFile.FieldType.long)) ∈ TBL := TBL_mem 1544 (by decide +kernel) (by decide +kernel)
theorem tm_1542 : (Jvm.Cond.instanceMethod ({ cls := "RollingNetsModel", name := "cash", desc := "(I)J" } : Jvm.MethodName)) ∈ TBL := TBL_mem 1542 (by decide +kernel) (by decide +kernel)
theorem tm_1543 : (Jvm.Cond.selects "RollingNetsModel" ({ cls := "RollingNetsModel", name := "cash", desc := "(I)J" } : Jvm.MethodName) ({ cls := "RollingNetsModel", name := "cash", desc := "(I)J" } : Jvm.MethodName)) ∈ TBL := TBL_mem 1543 (by decide +kernel) (by decide +kernel)
theorem mv_Law_106 : MV "RollingNetsLaw" 106 yX9_cash cX9_cash 2 (some .long) 1 6 := ⟨⟨Or.inl tm_1541, tm_118, tm_1544, by decide +kernel⟩, tm_1542, tm_1543, _, _, rfl⟩
theorem tm_1545 : (Jvm.Cond.methodLink "RollingNetsLaw" (111 : Nat) ({ cls := "RollingNetsModel", name := "deal", desc := "(II)I" } : Jvm.MethodName)) ∈ TBL := TBL_mem 1545 (by decide +kernel) (by decide +kernel)
theorem tm_1548 : (Jvm.Cond.code ({ cls := "RollingNetsModel", name := "deal", desc := "(II)I" } : Jvm.MethodName) prog_11_method_98_code (3 : Nat) (Option.some Jvm.ClassFile.FieldType.int)) ∈ TBL := TBL_mem 1548 (by decide +kernel) (by decide +kernel)
theorem tm_1546 : (Jvm.Cond.instanceMethod ({ cls := "RollingNetsModel", name := "deal", desc := "(II)I" } : Jvm.MethodName)) ∈ TBL := TBL_mem 1546 (by decide +kernel) (by decide +kernel)
theorem tm_1547 : (Jvm.Cond.selects "RollingNetsModel" ({ cls := "RollingNetsModel", name := "deal", desc := "(II)I" } : Jvm.MethodName) ({ cls := "RollingNetsModel", name := "deal", desc := "(II)I" } : Jvm.MethodName)) ∈ TBL := TBL_mem 1547 (by decide +kernel) (by decide +kernel)
theorem mv_Law_111 : MV "RollingNetsLaw" 111 yX9_deal cX9_deal 3 (some .int) 2 6 := ⟨⟨Or.inl tm_1545, tm_118, tm_1548, by decide +kernel⟩, tm_1546, tm_1547, _, _, rfl⟩
theorem tm_1549 : (Jvm.Cond.methodLink "RollingNetsLaw" (115 : Nat) ({ cls := "RollingNetsModel", name := "notice", desc := "(II)I" } : Jvm.MethodName)) ∈ TBL := TBL_mem 1549 (by decide +kernel) (by decide +kernel)
theorem tm_1552 : (Jvm.Cond.code ({ cls := "RollingNetsModel", name := "notice", desc := "(II)I" } : Jvm.MethodName) prog_11_method_99_code (3 : Nat) (Option.some Jvm.ClassFile.FieldType.int)) ∈ TBL := TBL_mem 1552 (by decide +kernel) (by decide +kernel)
theorem tm_1550 : (Jvm.Cond.instanceMethod ({ cls := "RollingNetsModel", name := "notice", desc := "(II)I" } : Jvm.MethodName)) ∈ TBL := TBL_mem 1550 (by decide +kernel) (by decide +kernel)
theorem tm_1551 : (Jvm.Cond.selects "RollingNetsModel" ({ cls := "RollingNetsModel", name := "notice", desc := "(II)I" } : Jvm.MethodName) ({ cls := "RollingNetsModel", name := "notice", desc := "(II)I" } : Jvm.MethodName)) ∈ TBL := TBL_mem 1551 (by decide +kernel) (by decide +kernel)
theorem mv_Law_115 : MV "RollingNetsLaw" 115 yX9_notice cX9_notice 3 (some .int) 2 6 := ⟨⟨Or.inl tm_1549, tm_118, tm_1552, by decide +kernel⟩, tm_1550, tm_1551, _, _, rfl⟩
theorem tm_1553 : (Jvm.Cond.methodLink "RollingNetsLaw" (119 : Nat) ({ cls := "RollingNetsModel", name := "issue", desc := "(II)I" } : Jvm.MethodName)) ∈ TBL := TBL_mem 1553 (by decide +kernel) (by decide +kernel)
theorem tm_1556 : (Jvm.Cond.code ({ cls := "RollingNetsModel", name := "issue", desc := "(II)I" } : Jvm.MethodName) prog_11_method_104_code (3 : Nat) (Option.some Jvm.ClassFile.FieldType.int)) ∈ TBL := TBL_mem 1556 (by decide +kernel) (by decide +kernel)
theorem tm_1554 : (Jvm.Cond.instanceMethod ({ cls := "RollingNetsModel", name := "issue", desc := "(II)I" } : Jvm.MethodName)) ∈ TBL := TBL_mem 1554 (by decide +kernel) (by decide +kernel)
theorem tm_1555 : (Jvm.Cond.selects "RollingNetsModel" ({ cls := "RollingNetsModel", name := "issue", desc := "(II)I" } : Jvm.MethodName) ({ cls := "RollingNetsModel", name := "issue", desc := "(II)I" } : Jvm.MethodName)) ∈ TBL := TBL_mem 1555 (by decide +kernel) (by decide +kernel)
theorem mv_Law_119 : MV "RollingNetsLaw" 119 yX9_issue cX9_issue 3 (some .int) 2 6 := ⟨⟨Or.inl tm_1553, tm_118, tm_1556, by decide +kernel⟩, tm_1554, tm_1555, _, _, rfl⟩
theorem tm_1573 : (Jvm.Cond.methodLink "RollingNetsLaw" (123 : Nat) ({ cls := "RollingNetsModel", name := "book", desc := "(II)I" } : Jvm.MethodName)) ∈ TBL := TBL_mem 1573 (by decide +kernel) (by decide +kernel)
theorem tm_1576 : (Jvm.Cond.code ({ cls := "RollingNetsModel", name := "book", desc := "(II)I" } : Jvm.MethodName) prog_11_method_105_code (4 : Nat) (Option.some Jvm.ClassFile.FieldType.int)) ∈ TBL := TBL_mem 1576 (by decide +kernel) (by decide +kernel)
theorem tm_1574 : (Jvm.Cond.instanceMethod ({ cls := "RollingNetsModel", name := "book", desc := "(II)I" } : Jvm.MethodName)) ∈ TBL := TBL_mem 1574 (by decide +kernel) (by decide +kernel)
theorem tm_1575 : (Jvm.Cond.selects "RollingNetsModel" ({ cls := "RollingNetsModel", name := "book", desc := "(II)I" } : Jvm.MethodName) ({ cls := "RollingNetsModel", name := "book", desc := "(II)I" } : Jvm.MethodName)) ∈ TBL := TBL_mem 1575 (by decide +kernel) (by decide +kernel)
theorem mv_Law_123 : MV "RollingNetsLaw" 123 yX9_book cX9_book 4 (some .int) 2 6 := ⟨⟨Or.inl tm_1573, tm_118, tm_1576, by decide +kernel⟩, tm_1574, tm_1575, _, _, rfl⟩
theorem tm_1577 : (Jvm.Cond.methodLink "RollingNetsLaw" (145 : Nat) ({ cls := "RollingNetsModel", name := "statement", desc := "(IIZ)I" } : Jvm.MethodName)) ∈ TBL := TBL_mem 1577 (by decide +kernel) (by decide +kernel)
theorem tm_1580 : (Jvm.Cond.code ({ cls := "RollingNetsModel", name := "statement", desc := "(IIZ)I" } : Jvm.MethodName) prog_11_method_106_code (7 : Nat) (Option.some Jvm.ClassFile.FieldType.int)) ∈ TBL := TBL_mem 1580 (by decide +kernel) (by decide +kernel)
theorem tm_1578 : (Jvm.Cond.instanceMethod ({ cls := "RollingNetsModel", name := "statement", desc := "(IIZ)I" } : Jvm.MethodName)) ∈ TBL := TBL_mem 1578 (by decide +kernel) (by decide +kernel)
theorem tm_1579 : (Jvm.Cond.selects "RollingNetsModel" ({ cls := "RollingNetsModel", name := "statement", desc := "(IIZ)I" } : Jvm.MethodName) ({ cls := "RollingNetsModel", name := "statement", desc := "(IIZ)I" } : Jvm.MethodName)) ∈ TBL := TBL_mem 1579 (by decide +kernel) (by decide +kernel)
theorem mv_Law_145 : MV "RollingNetsLaw" 145 yX9_statement cX9_statement 7 (some .int) 3 6 := ⟨⟨Or.inl tm_1577, tm_118, tm_1580, by decide +kernel⟩, tm_1578, tm_1579, _, _, rfl⟩
theorem tm_1581 : (Jvm.Cond.methodLink "RollingNetsLaw" (136 : Nat) ({ cls := "RollingNetsModel", name := "queue", desc := "(III)I" } : Jvm.MethodName)) ∈ TBL := TBL_mem 1581 (by decide +kernel) (by decide +kernel)
theorem tm_1584 : (Jvm.Cond.code ({ cls := "RollingNetsModel", name := "queue", desc := "(III)I" } : Jvm.MethodName) prog_11_method_107_code (4 : Nat) (Option.some Jvm.ClassFile.FieldType.int)) ∈ TBL := TBL_mem 1584 (by decide +kernel) (by decide +kernel)
theorem tm_1582 : (Jvm.Cond.instanceMethod ({ cls := "RollingNetsModel", name := "queue", desc := "(III)I" } : Jvm.MethodName)) ∈ TBL := TBL_mem 1582 (by decide +kernel) (by decide +kernel)
theorem tm_1583 : (Jvm.Cond.selects "RollingNetsModel" ({ cls := "RollingNetsModel", name := "queue", desc := "(III)I" } : Jvm.MethodName) ({ cls := "RollingNetsModel", name := "queue", desc := "(III)I" } : Jvm.MethodName)) ∈ TBL := TBL_mem 1583 (by decide +kernel) (by decide +kernel)
theorem mv_Law_136 : MV "RollingNetsLaw" 136 yX9_queue cX9_queue 4 (some .int) 3 6 := ⟨⟨Or.inl tm_1581, tm_118, tm_1584, by decide +kernel⟩, tm_1582, tm_1583, _, _, rfl⟩
theorem tm_1585 : (Jvm.Cond.methodLink "RollingNetsLaw" (153 : Nat) ({ cls := "RollingNetsModel", name := "ahead", desc := "(II)I" } : Jvm.MethodName)) ∈ TBL := TBL_mem 1585 (by decide +kernel) (by decide +kernel)
theorem tm_1588 : (Jvm.Cond.code ({ cls := "RollingNetsModel", name := "ahead", desc := "(II)I" } : Jvm.MethodName) prog_11_method_108_code (5 : Nat) (Option.some Jvm.ClassFile.FieldType.int)) ∈ TBL := TBL_mem 1588 (by decide +kernel) (by decide +kernel)
theorem tm_1586 : (Jvm.Cond.instanceMethod ({ cls := "RollingNetsModel", name := "ahead", desc := "(II)I" } : Jvm.MethodName)) ∈ TBL := TBL_mem 1586 (by decide +kernel) (by decide +kernel)
theorem tm_1587 : (Jvm.Cond.selects "RollingNetsModel" ({ cls := "RollingNetsModel", name := "ahead", desc := "(II)I" } : Jvm.MethodName) ({ cls := "RollingNetsModel", name := "ahead", desc := "(II)I" } : Jvm.MethodName)) ∈ TBL := TBL_mem 1587 (by decide +kernel) (by decide +kernel)
theorem mv_Law_153 : MV "RollingNetsLaw" 153 yX9_ahead cX9_ahead 5 (some .int) 2 6 := ⟨⟨Or.inl tm_1585, tm_118, tm_1588, by decide +kernel⟩, tm_1586, tm_1587, _, _, rfl⟩
theorem tm_1589 : (Jvm.Cond.methodLink "RollingNetsLaw" (140 : Nat) ({ cls := "RollingNetsModel", name := "aged", desc := "(II)I" } : Jvm.MethodName)) ∈ TBL := TBL_mem 1589 (by decide +kernel) (by decide +kernel)
theorem tm_1592 : (Jvm.Cond.code ({ cls := "RollingNetsModel", name := "aged", desc := "(II)I" } : Jvm.MethodName) prog_11_method_109_code (6 : Nat) (Option.some Jvm.ClassFile.FieldType.int)) ∈ TBL := TBL_mem 1592 (by decide +kernel) (by decide +kernel)
theorem tm_1590 : (Jvm.Cond.instanceMethod ({ cls := "RollingNetsModel", name := "aged", desc := "(II)I" } : Jvm.MethodName)) ∈ TBL := TBL_mem 1590 (by decide +kernel) (by decide +kernel)
theorem tm_1591 : (Jvm.Cond.selects "RollingNetsModel" ({ cls := "RollingNetsModel", name := "aged", desc := "(II)I" } : Jvm.MethodName) ({ cls := "RollingNetsModel", name := "aged", desc := "(II)I" } : Jvm.MethodName)) ∈ TBL := TBL_mem 1591 (by decide +kernel) (by decide +kernel)
theorem mv_Law_140 : MV "RollingNetsLaw" 140 yX9_aged cX9_aged 6 (some .int) 2 6 := ⟨⟨Or.inl tm_1589, tm_118, tm_1592, by decide +kernel⟩, tm_1590, tm_1591, _, _, rfl⟩
theorem tm_1593 : (Jvm.Cond.methodLink "RollingNetsLaw" (74 : Nat) ({ cls := "RollingNetsModel", name := "feed", desc := "(IIIII)I" } : Jvm.MethodName)) ∈ TBL := TBL_mem 1593 (by decide +kernel) (by decide +kernel)
theorem tm_1596 : (Jvm.Cond.code ({ cls := "RollingNetsModel", name := "feed", desc := "(IIIII)I" } : Jvm.MethodName) prog_11_method_111_code (6 : Nat) (Option.some Jvm.ClassFile.FieldType.int)) ∈ TBL := TBL_mem 1596 (by decide +kernel) (by decide +kernel)
theorem tm_1594 : (Jvm.Cond.instanceMethod ({ cls := "RollingNetsModel", name := "feed", desc := "(IIIII)I" } : Jvm.MethodName)) ∈ TBL := TBL_mem 1594 (by decide +kernel) (by decide +kernel)
theorem tm_1595 : (Jvm.Cond.selects "RollingNetsModel" ({ cls := "RollingNetsModel", name := "feed", desc := "(IIIII)I" } : Jvm.MethodName) ({ cls := "RollingNetsModel", name := "feed", desc := "(IIIII)I" } : Jvm.MethodName)) ∈ TBL := TBL_mem 1595 (by decide +kernel) (by decide +kernel)
theorem mv_Law_74 : MV "RollingNetsLaw" 74 yX9_feed cX9_feed 6 (some .int) 5 6 := ⟨⟨Or.inl tm_1593, tm_118, tm_1596, by decide +kernel⟩, tm_1594, tm_1595, _, _, rfl⟩
theorem tm_1601 : (Jvm.Cond.methodLink "RollingNetsLaw" (79 : Nat) ({ cls := "RollingNetsModel", name := "end", desc := "(I)Z" } : Jvm.MethodName)) ∈ TBL := TBL_mem 1601 (by decide +kernel) (by decide +kernel)
theorem tm_1604 : (Jvm.Cond.code ({ cls := "RollingNetsModel", name := "end", desc := "(I)Z" } : Jvm.MethodName) prog_11_method_112_code (2 : Nat) (Option.some Jvm.ClassFile.FieldType.boolean)) ∈ TBL := TBL_mem 1604 (by decide +kernel) (by decide +kernel)
theorem tm_1602 : (Jvm.Cond.instanceMethod ({ cls := "RollingNetsModel", name := "end", desc := "(I)Z" } : Jvm.MethodName)) ∈ TBL := TBL_mem 1602 (by decide +kernel) (by decide +kernel)
theorem tm_1603 : (Jvm.Cond.selects "RollingNetsModel" ({ cls := "RollingNetsModel", name := "end", desc := "(I)Z" } : Jvm.MethodName) ({ cls := "RollingNetsModel", name := "end", desc := "(I)Z" } : Jvm.MethodName)) ∈ TBL := TBL_mem 1603 (by decide +kernel) (by decide +kernel)
theorem mv_Law_79 : MV "RollingNetsLaw" 79 yX9_end cX9_end 2 (some .boolean) 1 6 := ⟨⟨Or.inl tm_1601, tm_118, tm_1604, by decide +kernel⟩, tm_1602, tm_1603, _, _, rfl⟩
theorem tm_1605 : (Jvm.Cond.methodLink "RollingNetsLaw" (84 : Nat) ({ cls := "RollingNetsModel", name := "plan", desc := "()I" } : Jvm.MethodName)) ∈ TBL := TBL_mem 1605 (by decide +kernel) (by decide +kernel)
theorem tm_1608 : (Jvm.Cond.code ({ cls := "RollingNetsModel", name := "plan", desc := "()I" } : Jvm.MethodName) prog_11_method_125_code (3 : Nat) (Option.some Jvm.ClassFile.FieldType.int)) ∈ TBL := TBL_mem 1608 (by decide +kernel) (by decide +kernel)
theorem tm_1606 : (Jvm.Cond.instanceMethod ({ cls := "RollingNetsModel", name := "plan", desc := "()I" } : Jvm.MethodName)) ∈ TBL := TBL_mem 1606 (by decide +kernel) (by decide +kernel)
theorem tm_1607 : (Jvm.Cond.selects "RollingNetsModel" ({ cls := "RollingNetsModel", name := "plan", desc := "()I" } : Jvm.MethodName) ({ cls := "RollingNetsModel", name := "plan", desc := "()I" } : Jvm.MethodName)) ∈ TBL := TBL_mem 1607 (by decide +kernel) (by decide +kernel)
theorem mv_Law_84 : MV "RollingNetsLaw" 84 yX9_plan cX9_plan 3 (some .int) 0 6 := ⟨⟨Or.inl tm_1605, tm_118, tm_1608, by decide +kernel⟩, tm_1606, tm_1607, _, _, rfl⟩
theorem tm_1657 : (Jvm.Cond.methodLink "RollingNetsLaw" (88 : Nat) ({ cls := "RollingNetsModel", name := "fault", desc := "(I)I" } : Jvm.MethodName)) ∈ TBL := TBL_mem 1657 (by decide +kernel) (by decide +kernel)
theorem tm_1660 : (Jvm.Cond.code ({ cls := "RollingNetsModel", name := "fault", desc := "(I)I" } : Jvm.MethodName) prog_11_method_126_code (2 : Nat) (Option.some Jvm.ClassFile.FieldType.int)) ∈ TBL := TBL_mem 1660 (by decide +kernel) (by decide +kernel)
theorem tm_1658 : (Jvm.Cond.instanceMethod ({ cls := "RollingNetsModel", name := "fault", desc := "(I)I" } : Jvm.MethodName)) ∈ TBL := TBL_mem 1658 (by decide +kernel) (by decide +kernel)
theorem tm_1659 : (Jvm.Cond.selects "RollingNetsModel" ({ cls := "RollingNetsModel", name := "fault", desc := "(I)I" } : Jvm.MethodName) ({ cls := "RollingNetsModel", name := "fault", desc := "(I)I" } : Jvm.MethodName)) ∈ TBL := TBL_mem 1659 (by decide +kernel) (by decide +kernel)
theorem mv_Law_88 : MV "RollingNetsLaw" 88 yX9_fault cX9_fault 2 (some .int) 1 6 := ⟨⟨Or.inl tm_1657, tm_118, tm_1660, by decide +kernel⟩, tm_1658, tm_1659, _, _, rfl⟩
theorem tm_1661 : (Jvm.Cond.methodLink "RollingNetsLaw" (92 : Nat) ({ cls := "RollingNetsModel", name := "run", desc := "(I)I" } : Jvm.MethodName)) ∈ TBL := TBL_mem 1661 (by decide +kernel) (by decide +kernel)
theorem tm_1664 : (Jvm.Cond.code ({ cls := "RollingNetsModel", name := "run", desc := "(I)I" } : Jvm.MethodName) prog_11_method_128_code (4 : Nat) (Option.some Jvm.ClassFile.FieldType.int)) ∈ TBL := TBL_mem 1664 (by decide +kernel) (by decide +kernel)
theorem tm_1662 : (Jvm.Cond.instanceMethod ({ cls := "RollingNetsModel", name := "run", desc := "(I)I" } : Jvm.MethodName)) ∈ TBL := TBL_mem 1662 (by decide +kernel) (by decide +kernel)
theorem tm_1663 : (Jvm.Cond.selects "RollingNetsModel" ({ cls := "RollingNetsModel", name := "run", desc := "(I)I" } : Jvm.MethodName) ({ cls := "RollingNetsModel", name := "run", desc := "(I)I" } : Jvm.MethodName)) ∈ TBL := TBL_mem 1663 (by decide +kernel) (by decide +kernel)
theorem mv_Law_92 : MV "RollingNetsLaw" 92 yX9_run cX9_run 4 (some .int) 1 6 := ⟨⟨Or.inl tm_1661, tm_118, tm_1664, by decide +kernel⟩, tm_1662, tm_1663, _, _, rfl⟩
theorem tm_1674 : (Jvm.Cond.methodLink "RollingNetsLaw" (166 : Nat) ({ cls := "RollingNetsModel", name := "look", desc := "(I)I" } : Jvm.MethodName)) ∈ TBL := TBL_mem 1674 (by decide +kernel) (by decide +kernel)
theorem tm_1677 : (Jvm.Cond.code ({ cls := "RollingNetsModel", name := "look", desc := "(I)I" } : Jvm.MethodName) prog_11_method_133_code (2 : Nat) (Option.some Jvm.ClassFile.FieldType.int)) ∈ TBL := TBL_mem 1677 (by decide +kernel) (by decide +kernel)
theorem tm_1675 : (Jvm.Cond.instanceMethod ({ cls := "RollingNetsModel", name := "look", desc := "(I)I" } : Jvm.MethodName)) ∈ TBL := TBL_mem 1675 (by decide +kernel) (by decide +kernel)
theorem tm_1676 : (Jvm.Cond.selects "RollingNetsModel" ({ cls := "RollingNetsModel", name := "look", desc := "(I)I" } : Jvm.MethodName) ({ cls := "RollingNetsModel", name := "look", desc := "(I)I" } : Jvm.MethodName)) ∈ TBL := TBL_mem 1676 (by decide +kernel) (by decide +kernel)
theorem mv_Law_166 : MV "RollingNetsLaw" 166 yX9_look cX9_look 2 (some .int) 1 6 := ⟨⟨Or.inl tm_1674, tm_118, tm_1677, by decide +kernel⟩, tm_1675, tm_1676, _, _, rfl⟩
theorem tm_1694 : (Jvm.Cond.methodLink "RollingNetsLaw" (162 : Nat) ({ cls := "RollingNetsModel", name := "image", desc := "(Z)Z" } : Jvm.MethodName)) ∈ TBL := TBL_mem 1694 (by decide +kernel) (by decide +kernel)
theorem tm_1697 : (Jvm.Cond.code ({ cls := "RollingNetsModel", name := "image", desc := "(Z)Z" } : Jvm.MethodName) prog_11_method_134_code (3 : Nat) (Option.some Jvm.ClassFile.FieldType.boolean)) ∈ TBL := TBL_mem 1697 (by decide +kernel) (by decide +kernel)
theorem tm_1695 : (Jvm.Cond.instanceMethod ({ cls := "RollingNetsModel", name := "image", desc := "(Z)Z" } : Jvm.MethodName)) ∈ TBL := TBL_mem 1695 (by decide +kernel) (by decide +kernel)
theorem tm_1696 : (Jvm.Cond.selects "RollingNetsModel" ({ cls := "RollingNetsModel", name := "image", desc := "(Z)Z" } : Jvm.MethodName) ({ cls := "RollingNetsModel", name := "image", desc := "(Z)Z" } : Jvm.MethodName)) ∈ TBL := TBL_mem 1696 (by decide +kernel) (by decide +kernel)
theorem mv_Law_162 : MV "RollingNetsLaw" 162 yX9_image cX9_image 3 (some .boolean) 1 6 := ⟨⟨Or.inl tm_1694, tm_118, tm_1697, by decide +kernel⟩, tm_1695, tm_1696, _, _, rfl⟩
