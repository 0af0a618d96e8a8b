theorem bJ2_length_9d52b_3 : (decode cJ2_length_9d52b 3 = .ok (.ishr, 1)) ∧ (decode cJ2_length_9d52b 4 = .ok (.ireturn, 1)) := by decide +kernel
theorem dJ2_length_9d52b_3 : decode cJ2_length_9d52b 3 = .ok (.ishr, 1) := bJ2_length_9d52b_3.1
theorem dJ2_length_9d52b_4 : decode cJ2_length_9d52b 4 = .ok (.ireturn, 1) := bJ2_length_9d52b_3.2
theorem bJ2_charAt_3b067_0 : (decode cJ2_charAt_3b067 0 = .ok (.iload_n 1, 1)) ∧ (decode cJ2_charAt_3b067 1 = .ok (.aload_n 0, 1)) ∧ (decode cJ2_charAt_3b067 2 = .ok (.invokestatic 67, 3)) ∧ (decode cJ2_charAt_3b067 5 = .ok (.aload_n 0, 1)) ∧ (decode cJ2_charAt_3b067 6 = .ok (.iload_n 1, 1)) ∧ (decode cJ2_charAt_3b067 7 = .ok (.invokestatic 71, 3)) ∧ (decode cJ2_charAt_3b067 10 = .ok (.ireturn, 1)) := by decide +kernel
theorem dJ2_charAt_3b067_0 : decode cJ2_charAt_3b067 0 = .ok (.iload_n 1, 1) := bJ2_charAt_3b067_0.1
theorem dJ2_charAt_3b067_1 : decode cJ2_charAt_3b067 1 = .ok (.aload_n 0, 1) := bJ2_charAt_3b067_0.2.1
theorem dJ2_charAt_3b067_2 : decode cJ2_charAt_3b067 2 = .ok (.invokestatic 67, 3) := bJ2_charAt_3b067_0.2.2.1
theorem dJ2_charAt_3b067_5 : decode cJ2_charAt_3b067 5 = .ok (.aload_n 0, 1) := bJ2_charAt_3b067_0.2.2.2.1
theorem dJ2_charAt_3b067_6 : decode cJ2_charAt_3b067 6 = .ok (.iload_n 1, 1) := bJ2_charAt_3b067_0.2.2.2.2.1
theorem dJ2_charAt_3b067_7 : decode cJ2_charAt_3b067 7 = .ok (.invokestatic 71, 3) := bJ2_charAt_3b067_0.2.2.2.2.2.1
theorem dJ2_charAt_3b067_10 : decode cJ2_charAt_3b067 10 = .ok (.ireturn, 1) := bJ2_charAt_3b067_0.2.2.2.2.2.2
theorem bJ2_checkIndex_2214a_0 : (decode cJ2_checkIndex_2214a 0 = .ok (.iload_n 0, 1)) ∧ (decode cJ2_checkIndex_2214a 1 = .ok (.aload_n 1, 1)) ∧ (decode cJ2_checkIndex_2214a 2 = .ok (.invokestatic 48, 3)) ∧ (decode cJ2_checkIndex_2214a 5 = .ok (.invokestatic 414, 3)) ∧ (decode cJ2_checkIndex_2214a 8 = .ok (.return_, 1)) := by decide +kernel
theorem dJ2_checkIndex_2214a_0 : decode cJ2_checkIndex_2214a 0 = .ok (.iload_n 0, 1) := bJ2_checkIndex_2214a_0.1
theorem dJ2_checkIndex_2214a_1 : decode cJ2_checkIndex_2214a 1 = .ok (.aload_n 1, 1) := bJ2_checkIndex_2214a_0.2.1
theorem dJ2_checkIndex_2214a_2 : decode cJ2_checkIndex_2214a 2 = .ok (.invokestatic 48, 3) := bJ2_checkIndex_2214a_0.2.2.1
theorem dJ2_checkIndex_2214a_5 : decode cJ2_checkIndex_2214a 5 = .ok (.invokestatic 414, 3) := bJ2_checkIndex_2214a_0.2.2.2.1
theorem dJ2_checkIndex_2214a_8 : decode cJ2_checkIndex_2214a 8 = .ok (.return_, 1) := bJ2_checkIndex_2214a_0.2.2.2.2
theorem bJ3_checkIndex_8e157_0 : (decode cJ3_checkIndex_8e157 0 = .ok (.iload_n 0, 1)) ∧ (decode cJ3_checkIndex_8e157 1 = .ok (.ifCond .lt 8, 3)) ∧ (decode cJ3_checkIndex_8e157 4 = .ok (.iload_n 0, 1)) ∧ (decode cJ3_checkIndex_8e157 5 = .ok (.iload_n 1, 1)) ∧ (decode cJ3_checkIndex_8e157 6 = .ok (.if_icmp .lt 10, 3)) ∧ (decode cJ3_checkIndex_8e157 9 = .ok (.aload_n 2, 1)) ∧ (decode cJ3_checkIndex_8e157 10 = .ok (.iload_n 0, 1)) ∧ (decode cJ3_checkIndex_8e157 11 = .ok (.iload_n 1, 1)) ∧ (decode cJ3_checkIndex_8e157 12 = .ok (.invokestatic 95, 3)) ∧ (decode cJ3_checkIndex_8e157 15 = .ok (.athrow, 1)) ∧ (decode cJ3_checkIndex_8e157 16 = .ok (.iload_n 0, 1)) ∧ (decode cJ3_checkIndex_8e157 17 = .ok (.ireturn, 1)) := by decide +kernel
theorem dJ3_checkIndex_8e157_0 : decode cJ3_checkIndex_8e157 0 = .ok (.iload_n 0, 1) := bJ3_checkIndex_8e157_0.1
theorem dJ3_checkIndex_8e157_1 : decode cJ3_checkIndex_8e157 1 = .ok (.ifCond .lt 8, 3) := bJ3_checkIndex_8e157_0.2.1
theorem dJ3_checkIndex_8e157_4 : decode cJ3_checkIndex_8e157 4 = .ok (.iload_n 0, 1) := bJ3_checkIndex_8e157_0.2.2.1
theorem dJ3_checkIndex_8e157_5 : decode cJ3_checkIndex_8e157 5 = .ok (.iload_n 1, 1) := bJ3_checkIndex_8e157_0.2.2.2.1
theorem dJ3_checkIndex_8e157_6 : decode cJ3_checkIndex_8e157 6 = .ok (.if_icmp .lt 10, 3) := bJ3_checkIndex_8e157_0.2.2.2.2.1
theorem dJ3_checkIndex_8e157_9 : decode cJ3_checkIndex_8e157 9 = .ok (.aload_n 2, 1) := bJ3_checkIndex_8e157_0.2.2.2.2.2.1
theorem dJ3_checkIndex_8e157_10 : decode cJ3_checkIndex_8e157 10 = .ok (.iload_n 0, 1) := bJ3_checkIndex_8e157_0.2.2.2.2.2.2.1
theorem dJ3_checkIndex_8e157_11 : decode cJ3_checkIndex_8e157 11 = .ok (.iload_n 1, 1) := bJ3_checkIndex_8e157_0.2.2.2.2.2.2.2.1
theorem dJ3_checkIndex_8e157_12 : decode cJ3_checkIndex_8e157 12 = .ok (.invokestatic 95, 3) := bJ3_checkIndex_8e157_0.2.2.2.2.2.2.2.2.1
theorem dJ3_checkIndex_8e157_15 : decode cJ3_checkIndex_8e157 15 = .ok (.athrow, 1) := bJ3_checkIndex_8e157_0.2.2.2.2.2.2.2.2.2.1
theorem dJ3_checkIndex_8e157_16 : decode cJ3_checkIndex_8e157 16 = .ok (.iload_n 0, 1) := bJ3_checkIndex_8e157_0.2.2.2.2.2.2.2.2.2.2.1
theorem dJ3_checkIndex_8e157_17 : decode cJ3_checkIndex_8e157 17 = .ok (.ireturn, 1) := bJ3_checkIndex_8e157_0.2.2.2.2.2.2.2.2.2.2.2
theorem bL_law_0 : (decode cL_law 0 = .ok (.new 7, 3)) ∧ (decode cL_law 3 = .ok (.dup, 1)) ∧ (decode cL_law 4 = .ok (.invokespecial 9, 3)) ∧ (decode cL_law 7 = .ok (.astore_n 1, 1)) ∧ (decode cL_law 8 = .ok (.new 10, 3)) ∧ (decode cL_law 11 = .ok (.dup, 1)) ∧ (decode cL_law 12 = .ok (.invokespecial 12, 3)) ∧ (decode cL_law 15 = .ok (.astore_n 2, 1)) ∧ (decode cL_law 16 = .ok (.iconst 0, 1)) ∧ (decode cL_law 17 = .ok (.istore_n 3, 1)) ∧ (decode cL_law 18 = .ok (.iload_n 3, 1)) ∧ (decode cL_law 19 = .ok (.aload_n 0, 1)) ∧ (decode cL_law 20 = .ok (.arraylength, 1)) ∧ (decode cL_law 21 = .ok (.iconst 5, 1)) ∧ (decode cL_law 22 = .ok (.isub, 1)) ∧ (decode cL_law 23 = .ok (.if_icmp .gt 1311, 3)) := by decide +kernel
theorem dL_law_0 : decode cL_law 0 = .ok (.new 7, 3) := bL_law_0.1
theorem dL_law_3 : decode cL_law 3 = .ok (.dup, 1) := bL_law_0.2.1
theorem dL_law_4 : decode cL_law 4 = .ok (.invokespecial 9, 3) := bL_law_0.2.2.1
theorem dL_law_7 : decode cL_law 7 = .ok (.astore_n 1, 1) := bL_law_0.2.2.2.1
theorem dL_law_8 : decode cL_law 8 = .ok (.new 10, 3) := bL_law_0.2.2.2.2.1
theorem dL_law_11 : decode cL_law 11 = .ok (.dup, 1) := bL_law_0.2.2.2.2.2.1
theorem dL_law_12 : decode cL_law 12 = .ok (.invokespecial 12, 3) := bL_law_0.2.2.2.2.2.2.1
theorem dL_law_15 : decode cL_law 15 = .ok (.astore_n 2, 1) := bL_law_0.2.2.2.2.2.2.2.1
theorem dL_law_16 : decode cL_law 16 = .ok (.iconst 0, 1) := bL_law_0.2.2.2.2.2.2.2.2.1
theorem dL_law_17 : decode cL_law 17 = .ok (.istore_n 3, 1) := bL_law_0.2.2.2.2.2.2.2.2.2.1
theorem dL_law_18 : decode cL_law 18 = .ok (.iload_n 3, 1) := bL_law_0.2.2.2.2.2.2.2.2.2.2.1
theorem dL_law_19 : decode cL_law 19 = .ok (.aload_n 0, 1) := bL_law_0.2.2.2.2.2.2.2.2.2.2.2.1
theorem dL_law_20 : decode cL_law 20 = .ok (.arraylength, 1) := bL_law_0.2.2.2.2.2.2.2.2.2.2.2.2.1
theorem dL_law_21 : decode cL_law 21 = .ok (.iconst 5, 1) := bL_law_0.2.2.2.2.2.2.2.2.2.2.2.2.2.1
theorem dL_law_22 : decode cL_law 22 = .ok (.isub, 1) := bL_law_0.2.2.2.2.2.2.2.2.2.2.2.2.2.2.1
theorem dL_law_23 : decode cL_law 23 = .ok (.if_icmp .gt 1311, 3) := bL_law_0.2.2.2.2.2.2.2.2.2.2.2.2.2.2.2
theorem bL_law_26 : (decode cL_law 26 = .ok (.aload_n 0, 1)) ∧ (decode cL_law 27 = .ok (.iload_n 3, 1)) ∧ (decode cL_law 28 = .ok (.iaload, 1)) ∧ (decode cL_law 29 = .ok (.bipush 63, 2)) ∧ (decode cL_law 31 = .ok (.iand, 1)) ∧ (decode cL_law 32 = .ok (.tableswitch 1296 0 39 #[176, 189, 222, 265, 288, 301, 314, 347, 370, 393, 406, 439, 472, 505, 538, 551, 574, 597, 630, 663, 686, 719, 772, 805, 828, 881, 934, 957, 980, 1003, 1026, 1049, 1092, 1135, 1168, 1191, 1214, 1237, 1260, 1283], 176)) ∧ (decode cL_law 208 = .ok (.aload_n 1, 1)) ∧ (decode cL_law 209 = .ok (.invokevirtual 13, 3)) ∧ (decode cL_law 212 = .ok (.pop, 1)) ∧ (decode cL_law 213 = .ok (.aload_n 2, 1)) ∧ (decode cL_law 214 = .ok (.invokevirtual 17, 3)) ∧ (decode cL_law 217 = .ok (.pop, 1)) ∧ (decode cL_law 218 = .ok (.goto 1110, 3)) ∧ (decode cL_law 221 = .ok (.aload_n 1, 1)) ∧ (decode cL_law 222 = .ok (.aload_n 0, 1)) ∧ (decode cL_law 223 = .ok (.iload_n 3, 1)) := by decide +kernel
theorem dL_law_26 : decode cL_law 26 = .ok (.aload_n 0, 1) := bL_law_26.1
theorem dL_law_27 : decode cL_law 27 = .ok (.iload_n 3, 1) := bL_law_26.2.1
theorem dL_law_28 : decode cL_law 28 = .ok (.iaload, 1) := bL_law_26.2.2.1
theorem dL_law_29 : decode cL_law 29 = .ok (.bipush 63, 2) := bL_law_26.2.2.2.1
theorem dL_law_31 : decode cL_law 31 = .ok (.iand, 1) := bL_law_26.2.2.2.2.1
theorem dL_law_32 : decode cL_law 32 = .ok (.tableswitch 1296 0 39 #[176, 189, 222, 265, 288, 301, 314, 347, 370, 393, 406, 439, 472, 505, 538, 551, 574, 597, 630, 663, 686, 719, 772, 805, 828, 881, 934, 957, 980, 1003, 1026, 1049, 1092, 1135, 1168, 1191, 1214, 1237, 1260, 1283], 176) := bL_law_26.2.2.2.2.2.1
theorem dL_law_208 : decode cL_law 208 = .ok (.aload_n 1, 1) := bL_law_26.2.2.2.2.2.2.1
theorem dL_law_209 : decode cL_law 209 = .ok (.invokevirtual 13, 3) := bL_law_26.2.2.2.2.2.2.2.1
theorem dL_law_212 : decode cL_law 212 = .ok (.pop, 1) := bL_law_26.2.2.2.2.2.2.2.2.1
theorem dL_law_213 : decode cL_law 213 = .ok (.aload_n 2, 1) := bL_law_26.2.2.2.2.2.2.2.2.2.1
theorem dL_law_214 : decode cL_law 214 = .ok (.invokevirtual 17, 3) := bL_law_26.2.2.2.2.2.2.2.2.2.2.1
theorem dL_law_217 : decode cL_law 217 = .ok (.pop, 1) := bL_law_26.2.2.2.2.2.2.2.2.2.2.2.1
theorem dL_law_218 : decode cL_law 218 = .ok (.goto 1110, 3) := bL_law_26.2.2.2.2.2.2.2.2.2.2.2.2.1
theorem dL_law_221 : decode cL_law 221 = .ok (.aload_n 1, 1) := bL_law_26.2.2.2.2.2.2.2.2.2.2.2.2.2.1
theorem dL_law_222 : decode cL_law 222 = .ok (.aload_n 0, 1) := bL_law_26.2.2.2.2.2.2.2.2.2.2.2.2.2.2.1
theorem dL_law_223 : decode cL_law 223 = .ok (.iload_n 3, 1) := bL_law_26.2.2.2.2.2.2.2.2.2.2.2.2.2.2.2
theorem bL_law_224 : (decode cL_law 224 = .ok (.iconst 1, 1)) ∧ (decode cL_law 225 = .ok (.iadd, 1)) ∧ (decode cL_law 226 = .ok (.iaload, 1)) ∧ (decode cL_law 227 = .ok (.aload_n 0, 1)) ∧ (decode cL_law 228 = .ok (.iload_n 3, 1)) ∧ (decode cL_law 229 = .ok (.iconst 2, 1)) ∧ (decode cL_law 230 = .ok (.iadd, 1)) ∧ (decode cL_law 231 = .ok (.iaload, 1)) ∧ (decode cL_law 232 = .ok (.invokevirtual 18, 3)) ∧ (decode cL_law 235 = .ok (.pop, 1)) ∧ (decode cL_law 236 = .ok (.aload_n 2, 1)) ∧ (decode cL_law 237 = .ok (.aload_n 0, 1)) ∧ (decode cL_law 238 = .ok (.iload_n 3, 1)) ∧ (decode cL_law 239 = .ok (.iconst 1, 1)) ∧ (decode cL_law 240 = .ok (.iadd, 1)) ∧ (decode cL_law 241 = .ok (.iaload, 1)) := by decide +kernel
theorem dL_law_224 : decode cL_law 224 = .ok (.iconst 1, 1) := bL_law_224.1
theorem dL_law_225 : decode cL_law 225 = .ok (.iadd, 1) := bL_law_224.2.1
theorem dL_law_226 : decode cL_law 226 = .ok (.iaload, 1) := bL_law_224.2.2.1
theorem dL_law_227 : decode cL_law 227 = .ok (.aload_n 0, 1) := bL_law_224.2.2.2.1
theorem dL_law_228 : decode cL_law 228 = .ok (.iload_n 3, 1) := bL_law_224.2.2.2.2.1
theorem dL_law_229 : decode cL_law 229 = .ok (.iconst 2, 1) := bL_law_224.2.2.2.2.2.1
theorem dL_law_230 : decode cL_law 230 = .ok (.iadd, 1) := bL_law_224.2.2.2.2.2.2.1
theorem dL_law_231 : decode cL_law 231 = .ok (.iaload, 1) := bL_law_224.2.2.2.2.2.2.2.1
theorem dL_law_232 : decode cL_law 232 = .ok (.invokevirtual 18, 3) := bL_law_224.2.2.2.2.2.2.2.2.1
theorem dL_law_235 : decode cL_law 235 = .ok (.pop, 1) := bL_law_224.2.2.2.2.2.2.2.2.2.1
theorem dL_law_236 : decode cL_law 236 = .ok (.aload_n 2, 1) := bL_law_224.2.2.2.2.2.2.2.2.2.2.1
theorem dL_law_237 : decode cL_law 237 = .ok (.aload_n 0, 1) := bL_law_224.2.2.2.2.2.2.2.2.2.2.2.1
theorem dL_law_238 : decode cL_law 238 = .ok (.iload_n 3, 1) := bL_law_224.2.2.2.2.2.2.2.2.2.2.2.2.1
theorem dL_law_239 : decode cL_law 239 = .ok (.iconst 1, 1) := bL_law_224.2.2.2.2.2.2.2.2.2.2.2.2.2.1
theorem dL_law_240 : decode cL_law 240 = .ok (.iadd, 1) := bL_law_224.2.2.2.2.2.2.2.2.2.2.2.2.2.2.1
theorem dL_law_241 : decode cL_law 241 = .ok (.iaload, 1) := bL_law_224.2.2.2.2.2.2.2.2.2.2.2.2.2.2.2
theorem bL_law_242 : (decode cL_law 242 = .ok (.aload_n 0, 1)) ∧ (decode cL_law 243 = .ok (.iload_n 3, 1)) ∧ (decode cL_law 244 = .ok (.iconst 2, 1)) ∧ (decode cL_law 245 = .ok (.iadd, 1)) ∧ (decode cL_law 246 = .ok (.iaload, 1)) ∧ (decode cL_law 247 = .ok (.invokevirtual 22, 3)) ∧ (decode cL_law 250 = .ok (.pop, 1)) ∧ (decode cL_law 251 = .ok (.goto 1077, 3)) ∧ (decode cL_law 254 = .ok (.aload_n 1, 1)) ∧ (decode cL_law 255 = .ok (.aload_n 0, 1)) ∧ (decode cL_law 256 = .ok (.iload_n 3, 1)) ∧ (decode cL_law 257 = .ok (.iconst 1, 1)) ∧ (decode cL_law 258 = .ok (.iadd, 1)) ∧ (decode cL_law 259 = .ok (.iaload, 1)) ∧ (decode cL_law 260 = .ok (.aload_n 0, 1)) ∧ (decode cL_law 261 = .ok (.iload_n 3, 1)) := by decide +kernel
theorem dL_law_242 : decode cL_law 242 = .ok (.aload_n 0, 1) := bL_law_242.1
theorem dL_law_243 : decode cL_law 243 = .ok (.iload_n 3, 1) := bL_law_242.2.1
theorem dL_law_244 : decode cL_law 244 = .ok (.iconst 2, 1) := bL_law_242.2.2.1
theorem dL_law_245 : decode cL_law 245 = .ok (.iadd, 1) := bL_law_242.2.2.2.1
theorem dL_law_246 : decode cL_law 246 = .ok (.iaload, 1) := bL_law_242.2.2.2.2.1
theorem dL_law_247 : decode cL_law 247 = .ok (.invokevirtual 22, 3) := bL_law_242.2.2.2.2.2.1
theorem dL_law_250 : decode cL_law 250 = .ok (.pop, 1) := bL_law_242.2.2.2.2.2.2.1
theorem dL_law_251 : decode cL_law 251 = .ok (.goto 1077, 3) := bL_law_242.2.2.2.2.2.2.2.1
theorem dL_law_254 : decode cL_law 254 = .ok (.aload_n 1, 1) := bL_law_242.2.2.2.2.2.2.2.2.1
theorem dL_law_255 : decode cL_law 255 = .ok (.aload_n 0, 1) := bL_law_242.2.2.2.2.2.2.2.2.2.1
theorem dL_law_256 : decode cL_law 256 = .ok (.iload_n 3, 1) := bL_law_242.2.2.2.2.2.2.2.2.2.2.1
theorem dL_law_257 : decode cL_law 257 = .ok (.iconst 1, 1) := bL_law_242.2.2.2.2.2.2.2.2.2.2.2.1
theorem dL_law_258 : decode cL_law 258 = .ok (.iadd, 1) := bL_law_242.2.2.2.2.2.2.2.2.2.2.2.2.1
theorem dL_law_259 : decode cL_law 259 = .ok (.iaload, 1) := bL_law_242.2.2.2.2.2.2.2.2.2.2.2.2.2.1
theorem dL_law_260 : decode cL_law 260 = .ok (.aload_n 0, 1) := bL_law_242.2.2.2.2.2.2.2.2.2.2.2.2.2.2.1
theorem dL_law_261 : decode cL_law 261 = .ok (.iload_n 3, 1) := bL_law_242.2.2.2.2.2.2.2.2.2.2.2.2.2.2.2
theorem bL_law_262 : (decode cL_law 262 = .ok (.iconst 2, 1)) ∧ (decode cL_law 263 = .ok (.iadd, 1)) ∧ (decode cL_law 264 = .ok (.iaload, 1)) ∧ (decode cL_law 265 = .ok (.aload_n 0, 1)) ∧ (decode cL_law 266 = .ok (.iload_n 3, 1)) ∧ (decode cL_law 267 = .ok (.iconst 3, 1)) ∧ (decode cL_law 268 = .ok (.iadd, 1)) ∧ (decode cL_law 269 = .ok (.iaload, 1)) ∧ (decode cL_law 270 = .ok (.invokevirtual 23, 3)) ∧ (decode cL_law 273 = .ok (.pop, 1)) ∧ (decode cL_law 274 = .ok (.aload_n 2, 1)) ∧ (decode cL_law 275 = .ok (.aload_n 0, 1)) ∧ (decode cL_law 276 = .ok (.iload_n 3, 1)) ∧ (decode cL_law 277 = .ok (.iconst 1, 1)) ∧ (decode cL_law 278 = .ok (.iadd, 1)) ∧ (decode cL_law 279 = .ok (.iaload, 1)) := by decide +kernel
theorem dL_law_262 : decode cL_law 262 = .ok (.iconst 2, 1) := bL_law_262.1
theorem dL_law_263 : decode cL_law 263 = .ok (.iadd, 1) := bL_law_262.2.1
theorem dL_law_264 : decode cL_law 264 = .ok (.iaload, 1) := bL_law_262.2.2.1
theorem dL_law_265 : decode cL_law 265 = .ok (.aload_n 0, 1) := bL_law_262.2.2.2.1
theorem dL_law_266 : decode cL_law 266 = .ok (.iload_n 3, 1) := bL_law_262.2.2.2.2.1
theorem dL_law_267 : decode cL_law 267 = .ok (.iconst 3, 1) := bL_law_262.2.2.2.2.2.1
theorem dL_law_268 : decode cL_law 268 = .ok (.iadd, 1) := bL_law_262.2.2.2.2.2.2.1
theorem dL_law_269 : decode cL_law 269 = .ok (.iaload, 1) := bL_law_262.2.2.2.2.2.2.2.1
theorem dL_law_270 : decode cL_law 270 = .ok (.invokevirtual 23, 3) := bL_law_262.2.2.2.2.2.2.2.2.1
theorem dL_law_273 : decode cL_law 273 = .ok (.pop, 1) := bL_law_262.2.2.2.2.2.2.2.2.2.1
theorem dL_law_274 : decode cL_law 274 = .ok (.aload_n 2, 1) := bL_law_262.2.2.2.2.2.2.2.2.2.2.1
theorem dL_law_275 : decode cL_law 275 = .ok (.aload_n 0, 1) := bL_law_262.2.2.2.2.2.2.2.2.2.2.2.1
theorem dL_law_276 : decode cL_law 276 = .ok (.iload_n 3, 1) := bL_law_262.2.2.2.2.2.2.2.2.2.2.2.2.1
theorem dL_law_277 : decode cL_law 277 = .ok (.iconst 1, 1) := bL_law_262.2.2.2.2.2.2.2.2.2.2.2.2.2.1
theorem dL_law_278 : decode cL_law 278 = .ok (.iadd, 1) := bL_law_262.2.2.2.2.2.2.2.2.2.2.2.2.2.2.1
theorem dL_law_279 : decode cL_law 279 = .ok (.iaload, 1) := bL_law_262.2.2.2.2.2.2.2.2.2.2.2.2.2.2.2
theorem bL_law_280 : (decode cL_law 280 = .ok (.aload_n 0, 1)) ∧ (decode cL_law 281 = .ok (.iload_n 3, 1)) ∧ (decode cL_law 282 = .ok (.iconst 2, 1)) ∧ (decode cL_law 283 = .ok (.iadd, 1)) ∧ (decode cL_law 284 = .ok (.iaload, 1)) ∧ (decode cL_law 285 = .ok (.aload_n 0, 1)) ∧ (decode cL_law 286 = .ok (.iload_n 3, 1)) ∧ (decode cL_law 287 = .ok (.iconst 3, 1)) ∧ (decode cL_law 288 = .ok (.iadd, 1)) ∧ (decode cL_law 289 = .ok (.iaload, 1)) ∧ (decode cL_law 290 = .ok (.invokevirtual 27, 3)) ∧ (decode cL_law 293 = .ok (.pop, 1)) ∧ (decode cL_law 294 = .ok (.goto 1034, 3)) ∧ (decode cL_law 297 = .ok (.aload_n 1, 1)) ∧ (decode cL_law 298 = .ok (.aload_n 0, 1)) ∧ (decode cL_law 299 = .ok (.iload_n 3, 1)) := by decide +kernel
theorem dL_law_280 : decode cL_law 280 = .ok (.aload_n 0, 1) := bL_law_280.1
theorem dL_law_281 : decode cL_law 281 = .ok (.iload_n 3, 1) := bL_law_280.2.1
theorem dL_law_282 : decode cL_law 282 = .ok (.iconst 2, 1) := bL_law_280.2.2.1
theorem dL_law_283 : decode cL_law 283 = .ok (.iadd, 1) := bL_law_280.2.2.2.1
theorem dL_law_284 : decode cL_law 284 = .ok (.iaload, 1) := bL_law_280.2.2.2.2.1
theorem dL_law_285 : decode cL_law 285 = .ok (.aload_n 0, 1) := bL_law_280.2.2.2.2.2.1
theorem dL_law_286 : decode cL_law 286 = .ok (.iload_n 3, 1) := bL_law_280.2.2.2.2.2.2.1
theorem dL_law_287 : decode cL_law 287 = .ok (.iconst 3, 1) := bL_law_280.2.2.2.2.2.2.2.1
theorem dL_law_288 : decode cL_law 288 = .ok (.iadd, 1) := bL_law_280.2.2.2.2.2.2.2.2.1
theorem dL_law_289 : decode cL_law 289 = .ok (.iaload, 1) := bL_law_280.2.2.2.2.2.2.2.2.2.1
theorem dL_law_290 : decode cL_law 290 = .ok (.invokevirtual 27, 3) := bL_law_280.2.2.2.2.2.2.2.2.2.2.1
theorem dL_law_293 : decode cL_law 293 = .ok (.pop, 1) := bL_law_280.2.2.2.2.2.2.2.2.2.2.2.1
theorem dL_law_294 : decode cL_law 294 = .ok (.goto 1034, 3) := bL_law_280.2.2.2.2.2.2.2.2.2.2.2.2.1
theorem dL_law_297 : decode cL_law 297 = .ok (.aload_n 1, 1) := bL_law_280.2.2.2.2.2.2.2.2.2.2.2.2.2.1
theorem dL_law_298 : decode cL_law 298 = .ok (.aload_n 0, 1) := bL_law_280.2.2.2.2.2.2.2.2.2.2.2.2.2.2.1
theorem dL_law_299 : decode cL_law 299 = .ok (.iload_n 3, 1) := bL_law_280.2.2.2.2.2.2.2.2.2.2.2.2.2.2.2
theorem bL_law_300 : (decode cL_law 300 = .ok (.iconst 1, 1)) ∧ (decode cL_law 301 = .ok (.iadd, 1)) ∧ (decode cL_law 302 = .ok (.iaload, 1)) ∧ (decode cL_law 303 = .ok (.invokevirtual 28, 3)) ∧ (decode cL_law 306 = .ok (.pop, 1)) ∧ (decode cL_law 307 = .ok (.aload_n 2, 1)) ∧ (decode cL_law 308 = .ok (.aload_n 0, 1)) ∧ (decode cL_law 309 = .ok (.iload_n 3, 1)) ∧ (decode cL_law 310 = .ok (.iconst 1, 1)) ∧ (decode cL_law 311 = .ok (.iadd, 1)) ∧ (decode cL_law 312 = .ok (.iaload, 1)) ∧ (decode cL_law 313 = .ok (.invokevirtual 32, 3)) ∧ (decode cL_law 316 = .ok (.pop, 1)) ∧ (decode cL_law 317 = .ok (.goto 1011, 3)) ∧ (decode cL_law 320 = .ok (.aload_n 1, 1)) ∧ (decode cL_law 321 = .ok (.invokevirtual 33, 3)) := by decide +kernel
theorem dL_law_300 : decode cL_law 300 = .ok (.iconst 1, 1) := bL_law_300.1
theorem dL_law_301 : decode cL_law 301 = .ok (.iadd, 1) := bL_law_300.2.1
theorem dL_law_302 : decode cL_law 302 = .ok (.iaload, 1) := bL_law_300.2.2.1
theorem dL_law_303 : decode cL_law 303 = .ok (.invokevirtual 28, 3) := bL_law_300.2.2.2.1
theorem dL_law_306 : decode cL_law 306 = .ok (.pop, 1) := bL_law_300.2.2.2.2.1
theorem dL_law_307 : decode cL_law 307 = .ok (.aload_n 2, 1) := bL_law_300.2.2.2.2.2.1
theorem dL_law_308 : decode cL_law 308 = .ok (.aload_n 0, 1) := bL_law_300.2.2.2.2.2.2.1
theorem dL_law_309 : decode cL_law 309 = .ok (.iload_n 3, 1) := bL_law_300.2.2.2.2.2.2.2.1
theorem dL_law_310 : decode cL_law 310 = .ok (.iconst 1, 1) := bL_law_300.2.2.2.2.2.2.2.2.1
theorem dL_law_311 : decode cL_law 311 = .ok (.iadd, 1) := bL_law_300.2.2.2.2.2.2.2.2.2.1
theorem dL_law_312 : decode cL_law 312 = .ok (.iaload, 1) := bL_law_300.2.2.2.2.2.2.2.2.2.2.1
theorem dL_law_313 : decode cL_law 313 = .ok (.invokevirtual 32, 3) := bL_law_300.2.2.2.2.2.2.2.2.2.2.2.1
theorem dL_law_316 : decode cL_law 316 = .ok (.pop, 1) := bL_law_300.2.2.2.2.2.2.2.2.2.2.2.2.1
theorem dL_law_317 : decode cL_law 317 = .ok (.goto 1011, 3) := bL_law_300.2.2.2.2.2.2.2.2.2.2.2.2.2.1
theorem dL_law_320 : decode cL_law 320 = .ok (.aload_n 1, 1) := bL_law_300.2.2.2.2.2.2.2.2.2.2.2.2.2.2.1
theorem dL_law_321 : decode cL_law 321 = .ok (.invokevirtual 33, 3) := bL_law_300.2.2.2.2.2.2.2.2.2.2.2.2.2.2.2
theorem bL_law_324 : (decode cL_law 324 = .ok (.pop, 1)) ∧ (decode cL_law 325 = .ok (.aload_n 2, 1)) ∧ (decode cL_law 326 = .ok (.invokevirtual 36, 3)) ∧ (decode cL_law 329 = .ok (.pop, 1)) ∧ (decode cL_law 330 = .ok (.goto 998, 3)) ∧ (decode cL_law 333 = .ok (.aload_n 1, 1)) ∧ (decode cL_law 334 = .ok (.invokevirtual 37, 3)) ∧ (decode cL_law 337 = .ok (.pop, 1)) ∧ (decode cL_law 338 = .ok (.aload_n 2, 1)) ∧ (decode cL_law 339 = .ok (.invokevirtual 40, 3)) ∧ (decode cL_law 342 = .ok (.pop, 1)) ∧ (decode cL_law 343 = .ok (.goto 985, 3)) ∧ (decode cL_law 346 = .ok (.aload_n 1, 1)) ∧ (decode cL_law 347 = .ok (.aload_n 0, 1)) ∧ (decode cL_law 348 = .ok (.iload_n 3, 1)) ∧ (decode cL_law 349 = .ok (.iconst 1, 1)) := by decide +kernel
theorem dL_law_324 : decode cL_law 324 = .ok (.pop, 1) := bL_law_324.1
theorem dL_law_325 : decode cL_law 325 = .ok (.aload_n 2, 1) := bL_law_324.2.1
theorem dL_law_326 : decode cL_law 326 = .ok (.invokevirtual 36, 3) := bL_law_324.2.2.1
theorem dL_law_329 : decode cL_law 329 = .ok (.pop, 1) := bL_law_324.2.2.2.1
theorem dL_law_330 : decode cL_law 330 = .ok (.goto 998, 3) := bL_law_324.2.2.2.2.1
theorem dL_law_333 : decode cL_law 333 = .ok (.aload_n 1, 1) := bL_law_324.2.2.2.2.2.1
theorem dL_law_334 : decode cL_law 334 = .ok (.invokevirtual 37, 3) := bL_law_324.2.2.2.2.2.2.1
theorem dL_law_337 : decode cL_law 337 = .ok (.pop, 1) := bL_law_324.2.2.2.2.2.2.2.1
theorem dL_law_338 : decode cL_law 338 = .ok (.aload_n 2, 1) := bL_law_324.2.2.2.2.2.2.2.2.1
theorem dL_law_339 : decode cL_law 339 = .ok (.invokevirtual 40, 3) := bL_law_324.2.2.2.2.2.2.2.2.2.1
theorem dL_law_342 : decode cL_law 342 = .ok (.pop, 1) := bL_law_324.2.2.2.2.2.2.2.2.2.2.1
theorem dL_law_343 : decode cL_law 343 = .ok (.goto 985, 3) := bL_law_324.2.2.2.2.2.2.2.2.2.2.2.1
theorem dL_law_346 : decode cL_law 346 = .ok (.aload_n 1, 1) := bL_law_324.2.2.2.2.2.2.2.2.2.2.2.2.1
theorem dL_law_347 : decode cL_law 347 = .ok (.aload_n 0, 1) := bL_law_324.2.2.2.2.2.2.2.2.2.2.2.2.2.1
theorem dL_law_348 : decode cL_law 348 = .ok (.iload_n 3, 1) := bL_law_324.2.2.2.2.2.2.2.2.2.2.2.2.2.2.1
theorem dL_law_349 : decode cL_law 349 = .ok (.iconst 1, 1) := bL_law_324.2.2.2.2.2.2.2.2.2.2.2.2.2.2.2
theorem bL_law_350 : (decode cL_law 350 = .ok (.iadd, 1)) ∧ (decode cL_law 351 = .ok (.iaload, 1)) ∧ (decode cL_law 352 = .ok (.aload_n 0, 1)) ∧ (decode cL_law 353 = .ok (.iload_n 3, 1)) ∧ (decode cL_law 354 = .ok (.iconst 2, 1)) ∧ (decode cL_law 355 = .ok (.iadd, 1)) ∧ (decode cL_law 356 = .ok (.iaload, 1)) ∧ (decode cL_law 357 = .ok (.invokevirtual 41, 3)) ∧ (decode cL_law 360 = .ok (.pop, 1)) ∧ (decode cL_law 361 = .ok (.aload_n 2, 1)) ∧ (decode cL_law 362 = .ok (.aload_n 0, 1)) ∧ (decode cL_law 363 = .ok (.iload_n 3, 1)) ∧ (decode cL_law 364 = .ok (.iconst 1, 1)) ∧ (decode cL_law 365 = .ok (.iadd, 1)) ∧ (decode cL_law 366 = .ok (.iaload, 1)) ∧ (decode cL_law 367 = .ok (.aload_n 0, 1)) := by decide +kernel
theorem dL_law_350 : decode cL_law 350 = .ok (.iadd, 1) := bL_law_350.1
theorem dL_law_351 : decode cL_law 351 = .ok (.iaload, 1) := bL_law_350.2.1
theorem dL_law_352 : decode cL_law 352 = .ok (.aload_n 0, 1) := bL_law_350.2.2.1
theorem dL_law_353 : decode cL_law 353 = .ok (.iload_n 3, 1) := bL_law_350.2.2.2.1
theorem dL_law_354 : decode cL_law 354 = .ok (.iconst 2, 1) := bL_law_350.2.2.2.2.1
theorem dL_law_355 : decode cL_law 355 = .ok (.iadd, 1) := bL_law_350.2.2.2.2.2.1
theorem dL_law_356 : decode cL_law 356 = .ok (.iaload, 1) := bL_law_350.2.2.2.2.2.2.1
theorem dL_law_357 : decode cL_law 357 = .ok (.invokevirtual 41, 3) := bL_law_350.2.2.2.2.2.2.2.1
theorem dL_law_360 : decode cL_law 360 = .ok (.pop, 1) := bL_law_350.2.2.2.2.2.2.2.2.1
theorem dL_law_361 : decode cL_law 361 = .ok (.aload_n 2, 1) := bL_law_350.2.2.2.2.2.2.2.2.2.1
theorem dL_law_362 : decode cL_law 362 = .ok (.aload_n 0, 1) := bL_law_350.2.2.2.2.2.2.2.2.2.2.1
theorem dL_law_363 : decode cL_law 363 = .ok (.iload_n 3, 1) := bL_law_350.2.2.2.2.2.2.2.2.2.2.2.1
theorem dL_law_364 : decode cL_law 364 = .ok (.iconst 1, 1) := bL_law_350.2.2.2.2.2.2.2.2.2.2.2.2.1
theorem dL_law_365 : decode cL_law 365 = .ok (.iadd, 1) := bL_law_350.2.2.2.2.2.2.2.2.2.2.2.2.2.1
theorem dL_law_366 : decode cL_law 366 = .ok (.iaload, 1) := bL_law_350.2.2.2.2.2.2.2.2.2.2.2.2.2.2.1
theorem dL_law_367 : decode cL_law 367 = .ok (.aload_n 0, 1) := bL_law_350.2.2.2.2.2.2.2.2.2.2.2.2.2.2.2
theorem bL_law_368 : (decode cL_law 368 = .ok (.iload_n 3, 1)) ∧ (decode cL_law 369 = .ok (.iconst 2, 1)) ∧ (decode cL_law 370 = .ok (.iadd, 1)) ∧ (decode cL_law 371 = .ok (.iaload, 1)) ∧ (decode cL_law 372 = .ok (.invokevirtual 44, 3)) ∧ (decode cL_law 375 = .ok (.pop, 1)) ∧ (decode cL_law 376 = .ok (.goto 952, 3)) ∧ (decode cL_law 379 = .ok (.aload_n 1, 1)) ∧ (decode cL_law 380 = .ok (.aload_n 0, 1)) ∧ (decode cL_law 381 = .ok (.iload_n 3, 1)) ∧ (decode cL_law 382 = .ok (.iconst 1, 1)) ∧ (decode cL_law 383 = .ok (.iadd, 1)) ∧ (decode cL_law 384 = .ok (.iaload, 1)) ∧ (decode cL_law 385 = .ok (.invokevirtual 45, 3)) ∧ (decode cL_law 388 = .ok (.pop, 1)) ∧ (decode cL_law 389 = .ok (.aload_n 2, 1)) := by decide +kernel
theorem dL_law_368 : decode cL_law 368 = .ok (.iload_n 3, 1) := bL_law_368.1
theorem dL_law_369 : decode cL_law 369 = .ok (.iconst 2, 1) := bL_law_368.2.1
theorem dL_law_370 : decode cL_law 370 = .ok (.iadd, 1) := bL_law_368.2.2.1
theorem dL_law_371 : decode cL_law 371 = .ok (.iaload, 1) := bL_law_368.2.2.2.1
theorem dL_law_372 : decode cL_law 372 = .ok (.invokevirtual 44, 3) := bL_law_368.2.2.2.2.1
theorem dL_law_375 : decode cL_law 375 = .ok (.pop, 1) := bL_law_368.2.2.2.2.2.1
theorem dL_law_376 : decode cL_law 376 = .ok (.goto 952, 3) := bL_law_368.2.2.2.2.2.2.1
theorem dL_law_379 : decode cL_law 379 = .ok (.aload_n 1, 1) := bL_law_368.2.2.2.2.2.2.2.1
theorem dL_law_380 : decode cL_law 380 = .ok (.aload_n 0, 1) := bL_law_368.2.2.2.2.2.2.2.2.1
theorem dL_law_381 : decode cL_law 381 = .ok (.iload_n 3, 1) := bL_law_368.2.2.2.2.2.2.2.2.2.1
theorem dL_law_382 : decode cL_law 382 = .ok (.iconst 1, 1) := bL_law_368.2.2.2.2.2.2.2.2.2.2.1
theorem dL_law_383 : decode cL_law 383 = .ok (.iadd, 1) := bL_law_368.2.2.2.2.2.2.2.2.2.2.2.1
theorem dL_law_384 : decode cL_law 384 = .ok (.iaload, 1) := bL_law_368.2.2.2.2.2.2.2.2.2.2.2.2.1
theorem dL_law_385 : decode cL_law 385 = .ok (.invokevirtual 45, 3) := bL_law_368.2.2.2.2.2.2.2.2.2.2.2.2.2.1
theorem dL_law_388 : decode cL_law 388 = .ok (.pop, 1) := bL_law_368.2.2.2.2.2.2.2.2.2.2.2.2.2.2.1
theorem dL_law_389 : decode cL_law 389 = .ok (.aload_n 2, 1) := bL_law_368.2.2.2.2.2.2.2.2.2.2.2.2.2.2.2
theorem bL_law_390 : (decode cL_law 390 = .ok (.aload_n 0, 1)) ∧ (decode cL_law 391 = .ok (.iload_n 3, 1)) ∧ (decode cL_law 392 = .ok (.iconst 1, 1)) ∧ (decode cL_law 393 = .ok (.iadd, 1)) ∧ (decode cL_law 394 = .ok (.iaload, 1)) ∧ (decode cL_law 395 = .ok (.invokevirtual 48, 3)) ∧ (decode cL_law 398 = .ok (.pop, 1)) ∧ (decode cL_law 399 = .ok (.goto 929, 3)) ∧ (decode cL_law 402 = .ok (.aload_n 1, 1)) ∧ (decode cL_law 403 = .ok (.aload_n 0, 1)) ∧ (decode cL_law 404 = .ok (.iload_n 3, 1)) ∧ (decode cL_law 405 = .ok (.iconst 1, 1)) ∧ (decode cL_law 406 = .ok (.iadd, 1)) ∧ (decode cL_law 407 = .ok (.iaload, 1)) ∧ (decode cL_law 408 = .ok (.invokevirtual 49, 3)) ∧ (decode cL_law 411 = .ok (.pop, 1)) := by decide +kernel
theorem dL_law_390 : decode cL_law 390 = .ok (.aload_n 0, 1) := bL_law_390.1
theorem dL_law_391 : decode cL_law 391 = .ok (.iload_n 3, 1) := bL_law_390.2.1
theorem dL_law_392 : decode cL_law 392 = .ok (.iconst 1, 1) := bL_law_390.2.2.1
theorem dL_law_393 : decode cL_law 393 = .ok (.iadd, 1) := bL_law_390.2.2.2.1
theorem dL_law_394 : decode cL_law 394 = .ok (.iaload, 1) := bL_law_390.2.2.2.2.1
theorem dL_law_395 : decode cL_law 395 = .ok (.invokevirtual 48, 3) := bL_law_390.2.2.2.2.2.1
theorem dL_law_398 : decode cL_law 398 = .ok (.pop, 1) := bL_law_390.2.2.2.2.2.2.1
theorem dL_law_399 : decode cL_law 399 = .ok (.goto 929, 3) := bL_law_390.2.2.2.2.2.2.2.1
theorem dL_law_402 : decode cL_law 402 = .ok (.aload_n 1, 1) := bL_law_390.2.2.2.2.2.2.2.2.1
theorem dL_law_403 : decode cL_law 403 = .ok (.aload_n 0, 1) := bL_law_390.2.2.2.2.2.2.2.2.2.1
theorem dL_law_404 : decode cL_law 404 = .ok (.iload_n 3, 1) := bL_law_390.2.2.2.2.2.2.2.2.2.2.1
theorem dL_law_405 : decode cL_law 405 = .ok (.iconst 1, 1) := bL_law_390.2.2.2.2.2.2.2.2.2.2.2.1
theorem dL_law_406 : decode cL_law 406 = .ok (.iadd, 1) := bL_law_390.2.2.2.2.2.2.2.2.2.2.2.2.1
theorem dL_law_407 : decode cL_law 407 = .ok (.iaload, 1) := bL_law_390.2.2.2.2.2.2.2.2.2.2.2.2.2.1
theorem dL_law_408 : decode cL_law 408 = .ok (.invokevirtual 49, 3) := bL_law_390.2.2.2.2.2.2.2.2.2.2.2.2.2.2.1
theorem dL_law_411 : decode cL_law 411 = .ok (.pop, 1) := bL_law_390.2.2.2.2.2.2.2.2.2.2.2.2.2.2.2
theorem bL_law_412 : (decode cL_law 412 = .ok (.aload_n 2, 1)) ∧ (decode cL_law 413 = .ok (.aload_n 0, 1)) ∧ (decode cL_law 414 = .ok (.iload_n 3, 1)) ∧ (decode cL_law 415 = .ok (.iconst 1, 1)) ∧ (decode cL_law 416 = .ok (.iadd, 1)) ∧ (decode cL_law 417 = .ok (.iaload, 1)) ∧ (decode cL_law 418 = .ok (.invokevirtual 52, 3)) ∧ (decode cL_law 421 = .ok (.pop, 1)) ∧ (decode cL_law 422 = .ok (.goto 906, 3)) ∧ (decode cL_law 425 = .ok (.aload_n 1, 1)) ∧ (decode cL_law 426 = .ok (.invokevirtual 53, 3)) ∧ (decode cL_law 429 = .ok (.pop, 1)) ∧ (decode cL_law 430 = .ok (.aload_n 2, 1)) ∧ (decode cL_law 431 = .ok (.invokevirtual 56, 3)) ∧ (decode cL_law 434 = .ok (.pop, 1)) ∧ (decode cL_law 435 = .ok (.goto 893, 3)) := by decide +kernel
theorem dL_law_412 : decode cL_law 412 = .ok (.aload_n 2, 1) := bL_law_412.1
theorem dL_law_413 : decode cL_law 413 = .ok (.aload_n 0, 1) := bL_law_412.2.1
theorem dL_law_414 : decode cL_law 414 = .ok (.iload_n 3, 1) := bL_law_412.2.2.1
theorem dL_law_415 : decode cL_law 415 = .ok (.iconst 1, 1) := bL_law_412.2.2.2.1
theorem dL_law_416 : decode cL_law 416 = .ok (.iadd, 1) := bL_law_412.2.2.2.2.1
theorem dL_law_417 : decode cL_law 417 = .ok (.iaload, 1) := bL_law_412.2.2.2.2.2.1
theorem dL_law_418 : decode cL_law 418 = .ok (.invokevirtual 52, 3) := bL_law_412.2.2.2.2.2.2.1
theorem dL_law_421 : decode cL_law 421 = .ok (.pop, 1) := bL_law_412.2.2.2.2.2.2.2.1
theorem dL_law_422 : decode cL_law 422 = .ok (.goto 906, 3) := bL_law_412.2.2.2.2.2.2.2.2.1
theorem dL_law_425 : decode cL_law 425 = .ok (.aload_n 1, 1) := bL_law_412.2.2.2.2.2.2.2.2.2.1
theorem dL_law_426 : decode cL_law 426 = .ok (.invokevirtual 53, 3) := bL_law_412.2.2.2.2.2.2.2.2.2.2.1
theorem dL_law_429 : decode cL_law 429 = .ok (.pop, 1) := bL_law_412.2.2.2.2.2.2.2.2.2.2.2.1
theorem dL_law_430 : decode cL_law 430 = .ok (.aload_n 2, 1) := bL_law_412.2.2.2.2.2.2.2.2.2.2.2.2.1
theorem dL_law_431 : decode cL_law 431 = .ok (.invokevirtual 56, 3) := bL_law_412.2.2.2.2.2.2.2.2.2.2.2.2.2.1
theorem dL_law_434 : decode cL_law 434 = .ok (.pop, 1) := bL_law_412.2.2.2.2.2.2.2.2.2.2.2.2.2.2.1
theorem dL_law_435 : decode cL_law 435 = .ok (.goto 893, 3) := bL_law_412.2.2.2.2.2.2.2.2.2.2.2.2.2.2.2
theorem bL_law_438 : (decode cL_law 438 = .ok (.aload_n 1, 1)) ∧ (decode cL_law 439 = .ok (.aload_n 0, 1)) ∧ (decode cL_law 440 = .ok (.iload_n 3, 1)) ∧ (decode cL_law 441 = .ok (.iconst 1, 1)) ∧ (decode cL_law 442 = .ok (.iadd, 1)) ∧ (decode cL_law 443 = .ok (.iaload, 1)) ∧ (decode cL_law 444 = .ok (.aload_n 0, 1)) ∧ (decode cL_law 445 = .ok (.iload_n 3, 1)) ∧ (decode cL_law 446 = .ok (.iconst 2, 1)) ∧ (decode cL_law 447 = .ok (.iadd, 1)) ∧ (decode cL_law 448 = .ok (.iaload, 1)) ∧ (decode cL_law 449 = .ok (.invokevirtual 57, 3)) ∧ (decode cL_law 452 = .ok (.pop, 1)) ∧ (decode cL_law 453 = .ok (.aload_n 2, 1)) ∧ (decode cL_law 454 = .ok (.aload_n 0, 1)) ∧ (decode cL_law 455 = .ok (.iload_n 3, 1)) := by decide +kernel
theorem dL_law_438 : decode cL_law 438 = .ok (.aload_n 1, 1) := bL_law_438.1
theorem dL_law_439 : decode cL_law 439 = .ok (.aload_n 0, 1) := bL_law_438.2.1
theorem dL_law_440 : decode cL_law 440 = .ok (.iload_n 3, 1) := bL_law_438.2.2.1
theorem dL_law_441 : decode cL_law 441 = .ok (.iconst 1, 1) := bL_law_438.2.2.2.1
theorem dL_law_442 : decode cL_law 442 = .ok (.iadd, 1) := bL_law_438.2.2.2.2.1
theorem dL_law_443 : decode cL_law 443 = .ok (.iaload, 1) := bL_law_438.2.2.2.2.2.1
theorem dL_law_444 : decode cL_law 444 = .ok (.aload_n 0, 1) := bL_law_438.2.2.2.2.2.2.1
theorem dL_law_445 : decode cL_law 445 = .ok (.iload_n 3, 1) := bL_law_438.2.2.2.2.2.2.2.1
theorem dL_law_446 : decode cL_law 446 = .ok (.iconst 2, 1) := bL_law_438.2.2.2.2.2.2.2.2.1
theorem dL_law_447 : decode cL_law 447 = .ok (.iadd, 1) := bL_law_438.2.2.2.2.2.2.2.2.2.1
theorem dL_law_448 : decode cL_law 448 = .ok (.iaload, 1) := bL_law_438.2.2.2.2.2.2.2.2.2.2.1
theorem dL_law_449 : decode cL_law 449 = .ok (.invokevirtual 57, 3) := bL_law_438.2.2.2.2.2.2.2.2.2.2.2.1
theorem dL_law_452 : decode cL_law 452 = .ok (.pop, 1) := bL_law_438.2.2.2.2.2.2.2.2.2.2.2.2.1
theorem dL_law_453 : decode cL_law 453 = .ok (.aload_n 2, 1) := bL_law_438.2.2.2.2.2.2.2.2.2.2.2.2.2.1
theorem dL_law_454 : decode cL_law 454 = .ok (.aload_n 0, 1) := bL_law_438.2.2.2.2.2.2.2.2.2.2.2.2.2.2.1
theorem dL_law_455 : decode cL_law 455 = .ok (.iload_n 3, 1) := bL_law_438.2.2.2.2.2.2.2.2.2.2.2.2.2.2.2
theorem bL_law_456 : (decode cL_law 456 = .ok (.iconst 1, 1)) ∧ (decode cL_law 457 = .ok (.iadd, 1)) ∧ (decode cL_law 458 = .ok (.iaload, 1)) ∧ (decode cL_law 459 = .ok (.aload_n 0, 1)) ∧ (decode cL_law 460 = .ok (.iload_n 3, 1)) ∧ (decode cL_law 461 = .ok (.iconst 2, 1)) ∧ (decode cL_law 462 = .ok (.iadd, 1)) ∧ (decode cL_law 463 = .ok (.iaload, 1)) ∧ (decode cL_law 464 = .ok (.invokevirtual 60, 3)) ∧ (decode cL_law 467 = .ok (.pop, 1)) ∧ (decode cL_law 468 = .ok (.goto 860, 3)) ∧ (decode cL_law 471 = .ok (.aload_n 1, 1)) ∧ (decode cL_law 472 = .ok (.aload_n 0, 1)) ∧ (decode cL_law 473 = .ok (.iload_n 3, 1)) ∧ (decode cL_law 474 = .ok (.iconst 1, 1)) ∧ (decode cL_law 475 = .ok (.iadd, 1)) := by decide +kernel
theorem dL_law_456 : decode cL_law 456 = .ok (.iconst 1, 1) := bL_law_456.1
theorem dL_law_457 : decode cL_law 457 = .ok (.iadd, 1) := bL_law_456.2.1
theorem dL_law_458 : decode cL_law 458 = .ok (.iaload, 1) := bL_law_456.2.2.1
theorem dL_law_459 : decode cL_law 459 = .ok (.aload_n 0, 1) := bL_law_456.2.2.2.1
theorem dL_law_460 : decode cL_law 460 = .ok (.iload_n 3, 1) := bL_law_456.2.2.2.2.1
theorem dL_law_461 : decode cL_law 461 = .ok (.iconst 2, 1) := bL_law_456.2.2.2.2.2.1
theorem dL_law_462 : decode cL_law 462 = .ok (.iadd, 1) := bL_law_456.2.2.2.2.2.2.1
theorem dL_law_463 : decode cL_law 463 = .ok (.iaload, 1) := bL_law_456.2.2.2.2.2.2.2.1
theorem dL_law_464 : decode cL_law 464 = .ok (.invokevirtual 60, 3) := bL_law_456.2.2.2.2.2.2.2.2.1
theorem dL_law_467 : decode cL_law 467 = .ok (.pop, 1) := bL_law_456.2.2.2.2.2.2.2.2.2.1
theorem dL_law_468 : decode cL_law 468 = .ok (.goto 860, 3) := bL_law_456.2.2.2.2.2.2.2.2.2.2.1
theorem dL_law_471 : decode cL_law 471 = .ok (.aload_n 1, 1) := bL_law_456.2.2.2.2.2.2.2.2.2.2.2.1
theorem dL_law_472 : decode cL_law 472 = .ok (.aload_n 0, 1) := bL_law_456.2.2.2.2.2.2.2.2.2.2.2.2.1
theorem dL_law_473 : decode cL_law 473 = .ok (.iload_n 3, 1) := bL_law_456.2.2.2.2.2.2.2.2.2.2.2.2.2.1
theorem dL_law_474 : decode cL_law 474 = .ok (.iconst 1, 1) := bL_law_456.2.2.2.2.2.2.2.2.2.2.2.2.2.2.1
theorem dL_law_475 : decode cL_law 475 = .ok (.iadd, 1) := bL_law_456.2.2.2.2.2.2.2.2.2.2.2.2.2.2.2
theorem bL_law_476 : (decode cL_law 476 = .ok (.iaload, 1)) ∧ (decode cL_law 477 = .ok (.aload_n 0, 1)) ∧ (decode cL_law 478 = .ok (.iload_n 3, 1)) ∧ (decode cL_law 479 = .ok (.iconst 2, 1)) ∧ (decode cL_law 480 = .ok (.iadd, 1)) ∧ (decode cL_law 481 = .ok (.iaload, 1)) ∧ (decode cL_law 482 = .ok (.invokevirtual 61, 3)) ∧ (decode cL_law 485 = .ok (.pop, 1)) ∧ (decode cL_law 486 = .ok (.aload_n 2, 1)) ∧ (decode cL_law 487 = .ok (.aload_n 0, 1)) ∧ (decode cL_law 488 = .ok (.iload_n 3, 1)) ∧ (decode cL_law 489 = .ok (.iconst 1, 1)) ∧ (decode cL_law 490 = .ok (.iadd, 1)) ∧ (decode cL_law 491 = .ok (.iaload, 1)) ∧ (decode cL_law 492 = .ok (.aload_n 0, 1)) ∧ (decode cL_law 493 = .ok (.iload_n 3, 1)) := by decide +kernel
theorem dL_law_476 : decode cL_law 476 = .ok (.iaload, 1) := bL_law_476.1
theorem dL_law_477 : decode cL_law 477 = .ok (.aload_n 0, 1) := bL_law_476.2.1
theorem dL_law_478 : decode cL_law 478 = .ok (.iload_n 3, 1) := bL_law_476.2.2.1
theorem dL_law_479 : decode cL_law 479 = .ok (.iconst 2, 1) := bL_law_476.2.2.2.1
theorem dL_law_480 : decode cL_law 480 = .ok (.iadd, 1) := bL_law_476.2.2.2.2.1
theorem dL_law_481 : decode cL_law 481 = .ok (.iaload, 1) := bL_law_476.2.2.2.2.2.1
theorem dL_law_482 : decode cL_law 482 = .ok (.invokevirtual 61, 3) := bL_law_476.2.2.2.2.2.2.1
theorem dL_law_485 : decode cL_law 485 = .ok (.pop, 1) := bL_law_476.2.2.2.2.2.2.2.1
theorem dL_law_486 : decode cL_law 486 = .ok (.aload_n 2, 1) := bL_law_476.2.2.2.2.2.2.2.2.1
theorem dL_law_487 : decode cL_law 487 = .ok (.aload_n 0, 1) := bL_law_476.2.2.2.2.2.2.2.2.2.1
theorem dL_law_488 : decode cL_law 488 = .ok (.iload_n 3, 1) := bL_law_476.2.2.2.2.2.2.2.2.2.2.1
theorem dL_law_489 : decode cL_law 489 = .ok (.iconst 1, 1) := bL_law_476.2.2.2.2.2.2.2.2.2.2.2.1
theorem dL_law_490 : decode cL_law 490 = .ok (.iadd, 1) := bL_law_476.2.2.2.2.2.2.2.2.2.2.2.2.1
theorem dL_law_491 : decode cL_law 491 = .ok (.iaload, 1) := bL_law_476.2.2.2.2.2.2.2.2.2.2.2.2.2.1
theorem dL_law_492 : decode cL_law 492 = .ok (.aload_n 0, 1) := bL_law_476.2.2.2.2.2.2.2.2.2.2.2.2.2.2.1
theorem dL_law_493 : decode cL_law 493 = .ok (.iload_n 3, 1) := bL_law_476.2.2.2.2.2.2.2.2.2.2.2.2.2.2.2
theorem bL_law_494 : (decode cL_law 494 = .ok (.iconst 2, 1)) ∧ (decode cL_law 495 = .ok (.iadd, 1)) ∧ (decode cL_law 496 = .ok (.iaload, 1)) ∧ (decode cL_law 497 = .ok (.invokevirtual 64, 3)) ∧ (decode cL_law 500 = .ok (.pop, 1)) ∧ (decode cL_law 501 = .ok (.goto 827, 3)) ∧ (decode cL_law 504 = .ok (.aload_n 1, 1)) ∧ (decode cL_law 505 = .ok (.aload_n 0, 1)) ∧ (decode cL_law 506 = .ok (.iload_n 3, 1)) ∧ (decode cL_law 507 = .ok (.iconst 1, 1)) ∧ (decode cL_law 508 = .ok (.iadd, 1)) ∧ (decode cL_law 509 = .ok (.iaload, 1)) ∧ (decode cL_law 510 = .ok (.aload_n 0, 1)) ∧ (decode cL_law 511 = .ok (.iload_n 3, 1)) ∧ (decode cL_law 512 = .ok (.iconst 2, 1)) ∧ (decode cL_law 513 = .ok (.iadd, 1)) := by decide +kernel
theorem dL_law_494 : decode cL_law 494 = .ok (.iconst 2, 1) := bL_law_494.1
theorem dL_law_495 : decode cL_law 495 = .ok (.iadd, 1) := bL_law_494.2.1
theorem dL_law_496 : decode cL_law 496 = .ok (.iaload, 1) := bL_law_494.2.2.1
theorem dL_law_497 : decode cL_law 497 = .ok (.invokevirtual 64, 3) := bL_law_494.2.2.2.1
theorem dL_law_500 : decode cL_law 500 = .ok (.pop, 1) := bL_law_494.2.2.2.2.1
theorem dL_law_501 : decode cL_law 501 = .ok (.goto 827, 3) := bL_law_494.2.2.2.2.2.1
theorem dL_law_504 : decode cL_law 504 = .ok (.aload_n 1, 1) := bL_law_494.2.2.2.2.2.2.1
theorem dL_law_505 : decode cL_law 505 = .ok (.aload_n 0, 1) := bL_law_494.2.2.2.2.2.2.2.1
theorem dL_law_506 : decode cL_law 506 = .ok (.iload_n 3, 1) := bL_law_494.2.2.2.2.2.2.2.2.1
theorem dL_law_507 : decode cL_law 507 = .ok (.iconst 1, 1) := bL_law_494.2.2.2.2.2.2.2.2.2.1
theorem dL_law_508 : decode cL_law 508 = .ok (.iadd, 1) := bL_law_494.2.2.2.2.2.2.2.2.2.2.1
theorem dL_law_509 : decode cL_law 509 = .ok (.iaload, 1) := bL_law_494.2.2.2.2.2.2.2.2.2.2.2.1
theorem dL_law_510 : decode cL_law 510 = .ok (.aload_n 0, 1) := bL_law_494.2.2.2.2.2.2.2.2.2.2.2.2.1
theorem dL_law_511 : decode cL_law 511 = .ok (.iload_n 3, 1) := bL_law_494.2.2.2.2.2.2.2.2.2.2.2.2.2.1
theorem dL_law_512 : decode cL_law 512 = .ok (.iconst 2, 1) := bL_law_494.2.2.2.2.2.2.2.2.2.2.2.2.2.2.1
theorem dL_law_513 : decode cL_law 513 = .ok (.iadd, 1) := bL_law_494.2.2.2.2.2.2.2.2.2.2.2.2.2.2.2
theorem bL_law_514 : (decode cL_law 514 = .ok (.iaload, 1)) ∧ (decode cL_law 515 = .ok (.invokevirtual 65, 3)) ∧ (decode cL_law 518 = .ok (.pop, 1)) ∧ (decode cL_law 519 = .ok (.aload_n 2, 1)) ∧ (decode cL_law 520 = .ok (.aload_n 0, 1)) ∧ (decode cL_law 521 = .ok (.iload_n 3, 1)) ∧ (decode cL_law 522 = .ok (.iconst 1, 1)) ∧ (decode cL_law 523 = .ok (.iadd, 1)) ∧ (decode cL_law 524 = .ok (.iaload, 1)) ∧ (decode cL_law 525 = .ok (.aload_n 0, 1)) ∧ (decode cL_law 526 = .ok (.iload_n 3, 1)) ∧ (decode cL_law 527 = .ok (.iconst 2, 1)) ∧ (decode cL_law 528 = .ok (.iadd, 1)) ∧ (decode cL_law 529 = .ok (.iaload, 1)) ∧ (decode cL_law 530 = .ok (.invokevirtual 68, 3)) ∧ (decode cL_law 533 = .ok (.pop, 1)) := by decide +kernel
theorem dL_law_514 : decode cL_law 514 = .ok (.iaload, 1) := bL_law_514.1
theorem dL_law_515 : decode cL_law 515 = .ok (.invokevirtual 65, 3) := bL_law_514.2.1
theorem dL_law_518 : decode cL_law 518 = .ok (.pop, 1) := bL_law_514.2.2.1
theorem dL_law_519 : decode cL_law 519 = .ok (.aload_n 2, 1) := bL_law_514.2.2.2.1
theorem dL_law_520 : decode cL_law 520 = .ok (.aload_n 0, 1) := bL_law_514.2.2.2.2.1
theorem dL_law_521 : decode cL_law 521 = .ok (.iload_n 3, 1) := bL_law_514.2.2.2.2.2.1
theorem dL_law_522 : decode cL_law 522 = .ok (.iconst 1, 1) := bL_law_514.2.2.2.2.2.2.1
theorem dL_law_523 : decode cL_law 523 = .ok (.iadd, 1) := bL_law_514.2.2.2.2.2.2.2.1
theorem dL_law_524 : decode cL_law 524 = .ok (.iaload, 1) := bL_law_514.2.2.2.2.2.2.2.2.1
theorem dL_law_525 : decode cL_law 525 = .ok (.aload_n 0, 1) := bL_law_514.2.2.2.2.2.2.2.2.2.1
theorem dL_law_526 : decode cL_law 526 = .ok (.iload_n 3, 1) := bL_law_514.2.2.2.2.2.2.2.2.2.2.1
theorem dL_law_527 : decode cL_law 527 = .ok (.iconst 2, 1) := bL_law_514.2.2.2.2.2.2.2.2.2.2.2.1
theorem dL_law_528 : decode cL_law 528 = .ok (.iadd, 1) := bL_law_514.2.2.2.2.2.2.2.2.2.2.2.2.1
theorem dL_law_529 : decode cL_law 529 = .ok (.iaload, 1) := bL_law_514.2.2.2.2.2.2.2.2.2.2.2.2.2.1
theorem dL_law_530 : decode cL_law 530 = .ok (.invokevirtual 68, 3) := bL_law_514.2.2.2.2.2.2.2.2.2.2.2.2.2.2.1
theorem dL_law_533 : decode cL_law 533 = .ok (.pop, 1) := bL_law_514.2.2.2.2.2.2.2.2.2.2.2.2.2.2.2
theorem bL_law_534 : (decode cL_law 534 = .ok (.goto 794, 3)) ∧ (decode cL_law 537 = .ok (.aload_n 1, 1)) ∧ (decode cL_law 538 = .ok (.aload_n 0, 1)) ∧ (decode cL_law 539 = .ok (.iload_n 3, 1)) ∧ (decode cL_law 540 = .ok (.iconst 1, 1)) ∧ (decode cL_law 541 = .ok (.iadd, 1)) ∧ (decode cL_law 542 = .ok (.iaload, 1)) ∧ (decode cL_law 543 = .ok (.aload_n 0, 1)) ∧ (decode cL_law 544 = .ok (.iload_n 3, 1)) ∧ (decode cL_law 545 = .ok (.iconst 2, 1)) ∧ (decode cL_law 546 = .ok (.iadd, 1)) ∧ (decode cL_law 547 = .ok (.iaload, 1)) ∧ (decode cL_law 548 = .ok (.invokevirtual 69, 3)) ∧ (decode cL_law 551 = .ok (.pop, 1)) ∧ (decode cL_law 552 = .ok (.aload_n 2, 1)) ∧ (decode cL_law 553 = .ok (.aload_n 0, 1)) := by decide +kernel
theorem dL_law_534 : decode cL_law 534 = .ok (.goto 794, 3) := bL_law_534.1
theorem dL_law_537 : decode cL_law 537 = .ok (.aload_n 1, 1) := bL_law_534.2.1
theorem dL_law_538 : decode cL_law 538 = .ok (.aload_n 0, 1) := bL_law_534.2.2.1
theorem dL_law_539 : decode cL_law 539 = .ok (.iload_n 3, 1) := bL_law_534.2.2.2.1
theorem dL_law_540 : decode cL_law 540 = .ok (.iconst 1, 1) := bL_law_534.2.2.2.2.1
theorem dL_law_541 : decode cL_law 541 = .ok (.iadd, 1) := bL_law_534.2.2.2.2.2.1
theorem dL_law_542 : decode cL_law 542 = .ok (.iaload, 1) := bL_law_534.2.2.2.2.2.2.1
theorem dL_law_543 : decode cL_law 543 = .ok (.aload_n 0, 1) := bL_law_534.2.2.2.2.2.2.2.1
theorem dL_law_544 : decode cL_law 544 = .ok (.iload_n 3, 1) := bL_law_534.2.2.2.2.2.2.2.2.1
theorem dL_law_545 : decode cL_law 545 = .ok (.iconst 2, 1) := bL_law_534.2.2.2.2.2.2.2.2.2.1
theorem dL_law_546 : decode cL_law 546 = .ok (.iadd, 1) := bL_law_534.2.2.2.2.2.2.2.2.2.2.1
theorem dL_law_547 : decode cL_law 547 = .ok (.iaload, 1) := bL_law_534.2.2.2.2.2.2.2.2.2.2.2.1
theorem dL_law_548 : decode cL_law 548 = .ok (.invokevirtual 69, 3) := bL_law_534.2.2.2.2.2.2.2.2.2.2.2.2.1
theorem dL_law_551 : decode cL_law 551 = .ok (.pop, 1) := bL_law_534.2.2.2.2.2.2.2.2.2.2.2.2.2.1
theorem dL_law_552 : decode cL_law 552 = .ok (.aload_n 2, 1) := bL_law_534.2.2.2.2.2.2.2.2.2.2.2.2.2.2.1
theorem dL_law_553 : decode cL_law 553 = .ok (.aload_n 0, 1) := bL_law_534.2.2.2.2.2.2.2.2.2.2.2.2.2.2.2
theorem bL_law_554 : (decode cL_law 554 = .ok (.iload_n 3, 1)) ∧ (decode cL_law 555 = .ok (.iconst 1, 1)) ∧ (decode cL_law 556 = .ok (.iadd, 1)) ∧ (decode cL_law 557 = .ok (.iaload, 1)) ∧ (decode cL_law 558 = .ok (.aload_n 0, 1)) ∧ (decode cL_law 559 = .ok (.iload_n 3, 1)) ∧ (decode cL_law 560 = .ok (.iconst 2, 1)) ∧ (decode cL_law 561 = .ok (.iadd, 1)) ∧ (decode cL_law 562 = .ok (.iaload, 1)) ∧ (decode cL_law 563 = .ok (.invokevirtual 72, 3)) ∧ (decode cL_law 566 = .ok (.pop, 1)) ∧ (decode cL_law 567 = .ok (.goto 761, 3)) ∧ (decode cL_law 570 = .ok (.aload_n 1, 1)) ∧ (decode cL_law 571 = .ok (.invokevirtual 73, 3)) ∧ (decode cL_law 574 = .ok (.pop, 1)) ∧ (decode cL_law 575 = .ok (.aload_n 2, 1)) := by decide +kernel
theorem dL_law_554 : decode cL_law 554 = .ok (.iload_n 3, 1) := bL_law_554.1
theorem dL_law_555 : decode cL_law 555 = .ok (.iconst 1, 1) := bL_law_554.2.1
theorem dL_law_556 : decode cL_law 556 = .ok (.iadd, 1) := bL_law_554.2.2.1
theorem dL_law_557 : decode cL_law 557 = .ok (.iaload, 1) := bL_law_554.2.2.2.1
theorem dL_law_558 : decode cL_law 558 = .ok (.aload_n 0, 1) := bL_law_554.2.2.2.2.1
theorem dL_law_559 : decode cL_law 559 = .ok (.iload_n 3, 1) := bL_law_554.2.2.2.2.2.1
theorem dL_law_560 : decode cL_law 560 = .ok (.iconst 2, 1) := bL_law_554.2.2.2.2.2.2.1
theorem dL_law_561 : decode cL_law 561 = .ok (.iadd, 1) := bL_law_554.2.2.2.2.2.2.2.1
theorem dL_law_562 : decode cL_law 562 = .ok (.iaload, 1) := bL_law_554.2.2.2.2.2.2.2.2.1
theorem dL_law_563 : decode cL_law 563 = .ok (.invokevirtual 72, 3) := bL_law_554.2.2.2.2.2.2.2.2.2.1
theorem dL_law_566 : decode cL_law 566 = .ok (.pop, 1) := bL_law_554.2.2.2.2.2.2.2.2.2.2.1
theorem dL_law_567 : decode cL_law 567 = .ok (.goto 761, 3) := bL_law_554.2.2.2.2.2.2.2.2.2.2.2.1
theorem dL_law_570 : decode cL_law 570 = .ok (.aload_n 1, 1) := bL_law_554.2.2.2.2.2.2.2.2.2.2.2.2.1
theorem dL_law_571 : decode cL_law 571 = .ok (.invokevirtual 73, 3) := bL_law_554.2.2.2.2.2.2.2.2.2.2.2.2.2.1
theorem dL_law_574 : decode cL_law 574 = .ok (.pop, 1) := bL_law_554.2.2.2.2.2.2.2.2.2.2.2.2.2.2.1
theorem dL_law_575 : decode cL_law 575 = .ok (.aload_n 2, 1) := bL_law_554.2.2.2.2.2.2.2.2.2.2.2.2.2.2.2
theorem bL_law_576 : (decode cL_law 576 = .ok (.invokevirtual 76, 3)) ∧ (decode cL_law 579 = .ok (.pop, 1)) ∧ (decode cL_law 580 = .ok (.goto 748, 3)) ∧ (decode cL_law 583 = .ok (.aload_n 1, 1)) ∧ (decode cL_law 584 = .ok (.aload_n 0, 1)) ∧ (decode cL_law 585 = .ok (.iload_n 3, 1)) ∧ (decode cL_law 586 = .ok (.iconst 1, 1)) ∧ (decode cL_law 587 = .ok (.iadd, 1)) ∧ (decode cL_law 588 = .ok (.iaload, 1)) ∧ (decode cL_law 589 = .ok (.invokevirtual 77, 3)) ∧ (decode cL_law 592 = .ok (.pop, 1)) ∧ (decode cL_law 593 = .ok (.aload_n 2, 1)) ∧ (decode cL_law 594 = .ok (.aload_n 0, 1)) ∧ (decode cL_law 595 = .ok (.iload_n 3, 1)) ∧ (decode cL_law 596 = .ok (.iconst 1, 1)) ∧ (decode cL_law 597 = .ok (.iadd, 1)) := by decide +kernel
theorem dL_law_576 : decode cL_law 576 = .ok (.invokevirtual 76, 3) := bL_law_576.1
theorem dL_law_579 : decode cL_law 579 = .ok (.pop, 1) := bL_law_576.2.1
theorem dL_law_580 : decode cL_law 580 = .ok (.goto 748, 3) := bL_law_576.2.2.1
theorem dL_law_583 : decode cL_law 583 = .ok (.aload_n 1, 1) := bL_law_576.2.2.2.1
theorem dL_law_584 : decode cL_law 584 = .ok (.aload_n 0, 1) := bL_law_576.2.2.2.2.1
theorem dL_law_585 : decode cL_law 585 = .ok (.iload_n 3, 1) := bL_law_576.2.2.2.2.2.1
theorem dL_law_586 : decode cL_law 586 = .ok (.iconst 1, 1) := bL_law_576.2.2.2.2.2.2.1
theorem dL_law_587 : decode cL_law 587 = .ok (.iadd, 1) := bL_law_576.2.2.2.2.2.2.2.1
theorem dL_law_588 : decode cL_law 588 = .ok (.iaload, 1) := bL_law_576.2.2.2.2.2.2.2.2.1
theorem dL_law_589 : decode cL_law 589 = .ok (.invokevirtual 77, 3) := bL_law_576.2.2.2.2.2.2.2.2.2.1
theorem dL_law_592 : decode cL_law 592 = .ok (.pop, 1) := bL_law_576.2.2.2.2.2.2.2.2.2.2.1
theorem dL_law_593 : decode cL_law 593 = .ok (.aload_n 2, 1) := bL_law_576.2.2.2.2.2.2.2.2.2.2.2.1
theorem dL_law_594 : decode cL_law 594 = .ok (.aload_n 0, 1) := bL_law_576.2.2.2.2.2.2.2.2.2.2.2.2.1
theorem dL_law_595 : decode cL_law 595 = .ok (.iload_n 3, 1) := bL_law_576.2.2.2.2.2.2.2.2.2.2.2.2.2.1
theorem dL_law_596 : decode cL_law 596 = .ok (.iconst 1, 1) := bL_law_576.2.2.2.2.2.2.2.2.2.2.2.2.2.2.1
theorem dL_law_597 : decode cL_law 597 = .ok (.iadd, 1) := bL_law_576.2.2.2.2.2.2.2.2.2.2.2.2.2.2.2
theorem bL_law_598 : (decode cL_law 598 = .ok (.iaload, 1)) ∧ (decode cL_law 599 = .ok (.invokevirtual 80, 3)) ∧ (decode cL_law 602 = .ok (.pop, 1)) ∧ (decode cL_law 603 = .ok (.goto 725, 3)) ∧ (decode cL_law 606 = .ok (.aload_n 1, 1)) ∧ (decode cL_law 607 = .ok (.aload_n 0, 1)) ∧ (decode cL_law 608 = .ok (.iload_n 3, 1)) ∧ (decode cL_law 609 = .ok (.iconst 1, 1)) ∧ (decode cL_law 610 = .ok (.iadd, 1)) ∧ (decode cL_law 611 = .ok (.iaload, 1)) ∧ (decode cL_law 612 = .ok (.invokevirtual 81, 3)) ∧ (decode cL_law 615 = .ok (.pop, 1)) ∧ (decode cL_law 616 = .ok (.aload_n 2, 1)) ∧ (decode cL_law 617 = .ok (.aload_n 0, 1)) ∧ (decode cL_law 618 = .ok (.iload_n 3, 1)) ∧ (decode cL_law 619 = .ok (.iconst 1, 1)) := by decide +kernel
theorem dL_law_598 : decode cL_law 598 = .ok (.iaload, 1) := bL_law_598.1
theorem dL_law_599 : decode cL_law 599 = .ok (.invokevirtual 80, 3) := bL_law_598.2.1
theorem dL_law_602 : decode cL_law 602 = .ok (.pop, 1) := bL_law_598.2.2.1
theorem dL_law_603 : decode cL_law 603 = .ok (.goto 725, 3) := bL_law_598.2.2.2.1
theorem dL_law_606 : decode cL_law 606 = .ok (.aload_n 1, 1) := bL_law_598.2.2.2.2.1
theorem dL_law_607 : decode cL_law 607 = .ok (.aload_n 0, 1) := bL_law_598.2.2.2.2.2.1
theorem dL_law_608 : decode cL_law 608 = .ok (.iload_n 3, 1) := bL_law_598.2.2.2.2.2.2.1
theorem dL_law_609 : decode cL_law 609 = .ok (.iconst 1, 1) := bL_law_598.2.2.2.2.2.2.2.1
theorem dL_law_610 : decode cL_law 610 = .ok (.iadd, 1) := bL_law_598.2.2.2.2.2.2.2.2.1
theorem dL_law_611 : decode cL_law 611 = .ok (.iaload, 1) := bL_law_598.2.2.2.2.2.2.2.2.2.1
theorem dL_law_612 : decode cL_law 612 = .ok (.invokevirtual 81, 3) := bL_law_598.2.2.2.2.2.2.2.2.2.2.1
theorem dL_law_615 : decode cL_law 615 = .ok (.pop, 1) := bL_law_598.2.2.2.2.2.2.2.2.2.2.2.1
theorem dL_law_616 : decode cL_law 616 = .ok (.aload_n 2, 1) := bL_law_598.2.2.2.2.2.2.2.2.2.2.2.2.1
theorem dL_law_617 : decode cL_law 617 = .ok (.aload_n 0, 1) := bL_law_598.2.2.2.2.2.2.2.2.2.2.2.2.2.1
theorem dL_law_618 : decode cL_law 618 = .ok (.iload_n 3, 1) := bL_law_598.2.2.2.2.2.2.2.2.2.2.2.2.2.2.1
theorem dL_law_619 : decode cL_law 619 = .ok (.iconst 1, 1) := bL_law_598.2.2.2.2.2.2.2.2.2.2.2.2.2.2.2
theorem bL_law_620 : (decode cL_law 620 = .ok (.iadd, 1)) ∧ (decode cL_law 621 = .ok (.iaload, 1)) ∧ (decode cL_law 622 = .ok (.invokevirtual 84, 3)) ∧ (decode cL_law 625 = .ok (.pop, 1)) ∧ (decode cL_law 626 = .ok (.goto 702, 3)) ∧ (decode cL_law 629 = .ok (.aload_n 1, 1)) ∧ (decode cL_law 630 = .ok (.aload_n 0, 1)) ∧ (decode cL_law 631 = .ok (.iload_n 3, 1)) ∧ (decode cL_law 632 = .ok (.iconst 1, 1)) ∧ (decode cL_law 633 = .ok (.iadd, 1)) ∧ (decode cL_law 634 = .ok (.iaload, 1)) ∧ (decode cL_law 635 = .ok (.aload_n 0, 1)) ∧ (decode cL_law 636 = .ok (.iload_n 3, 1)) ∧ (decode cL_law 637 = .ok (.iconst 2, 1)) ∧ (decode cL_law 638 = .ok (.iadd, 1)) ∧ (decode cL_law 639 = .ok (.iaload, 1)) := by decide +kernel
theorem dL_law_620 : decode cL_law 620 = .ok (.iadd, 1) := bL_law_620.1
theorem dL_law_621 : decode cL_law 621 = .ok (.iaload, 1) := bL_law_620.2.1
theorem dL_law_622 : decode cL_law 622 = .ok (.invokevirtual 84, 3) := bL_law_620.2.2.1
theorem dL_law_625 : decode cL_law 625 = .ok (.pop, 1) := bL_law_620.2.2.2.1
theorem dL_law_626 : decode cL_law 626 = .ok (.goto 702, 3) := bL_law_620.2.2.2.2.1
theorem dL_law_629 : decode cL_law 629 = .ok (.aload_n 1, 1) := bL_law_620.2.2.2.2.2.1
theorem dL_law_630 : decode cL_law 630 = .ok (.aload_n 0, 1) := bL_law_620.2.2.2.2.2.2.1
theorem dL_law_631 : decode cL_law 631 = .ok (.iload_n 3, 1) := bL_law_620.2.2.2.2.2.2.2.1
theorem dL_law_632 : decode cL_law 632 = .ok (.iconst 1, 1) := bL_law_620.2.2.2.2.2.2.2.2.1
theorem dL_law_633 : decode cL_law 633 = .ok (.iadd, 1) := bL_law_620.2.2.2.2.2.2.2.2.2.1
theorem dL_law_634 : decode cL_law 634 = .ok (.iaload, 1) := bL_law_620.2.2.2.2.2.2.2.2.2.2.1
theorem dL_law_635 : decode cL_law 635 = .ok (.aload_n 0, 1) := bL_law_620.2.2.2.2.2.2.2.2.2.2.2.1
theorem dL_law_636 : decode cL_law 636 = .ok (.iload_n 3, 1) := bL_law_620.2.2.2.2.2.2.2.2.2.2.2.2.1
theorem dL_law_637 : decode cL_law 637 = .ok (.iconst 2, 1) := bL_law_620.2.2.2.2.2.2.2.2.2.2.2.2.2.1
theorem dL_law_638 : decode cL_law 638 = .ok (.iadd, 1) := bL_law_620.2.2.2.2.2.2.2.2.2.2.2.2.2.2.1
theorem dL_law_639 : decode cL_law 639 = .ok (.iaload, 1) := bL_law_620.2.2.2.2.2.2.2.2.2.2.2.2.2.2.2
theorem bL_law_640 : (decode cL_law 640 = .ok (.invokevirtual 85, 3)) ∧ (decode cL_law 643 = .ok (.pop, 1)) ∧ (decode cL_law 644 = .ok (.aload_n 2, 1)) ∧ (decode cL_law 645 = .ok (.aload_n 0, 1)) ∧ (decode cL_law 646 = .ok (.iload_n 3, 1)) ∧ (decode cL_law 647 = .ok (.iconst 1, 1)) ∧ (decode cL_law 648 = .ok (.iadd, 1)) ∧ (decode cL_law 649 = .ok (.iaload, 1)) ∧ (decode cL_law 650 = .ok (.aload_n 0, 1)) ∧ (decode cL_law 651 = .ok (.iload_n 3, 1)) ∧ (decode cL_law 652 = .ok (.iconst 2, 1)) ∧ (decode cL_law 653 = .ok (.iadd, 1)) ∧ (decode cL_law 654 = .ok (.iaload, 1)) ∧ (decode cL_law 655 = .ok (.invokevirtual 88, 3)) ∧ (decode cL_law 658 = .ok (.pop, 1)) ∧ (decode cL_law 659 = .ok (.goto 669, 3)) := by decide +kernel
theorem dL_law_640 : decode cL_law 640 = .ok (.invokevirtual 85, 3) := bL_law_640.1
theorem dL_law_643 : decode cL_law 643 = .ok (.pop, 1) := bL_law_640.2.1
theorem dL_law_644 : decode cL_law 644 = .ok (.aload_n 2, 1) := bL_law_640.2.2.1
theorem dL_law_645 : decode cL_law 645 = .ok (.aload_n 0, 1) := bL_law_640.2.2.2.1
theorem dL_law_646 : decode cL_law 646 = .ok (.iload_n 3, 1) := bL_law_640.2.2.2.2.1
theorem dL_law_647 : decode cL_law 647 = .ok (.iconst 1, 1) := bL_law_640.2.2.2.2.2.1
theorem dL_law_648 : decode cL_law 648 = .ok (.iadd, 1) := bL_law_640.2.2.2.2.2.2.1
theorem dL_law_649 : decode cL_law 649 = .ok (.iaload, 1) := bL_law_640.2.2.2.2.2.2.2.1
theorem dL_law_650 : decode cL_law 650 = .ok (.aload_n 0, 1) := bL_law_640.2.2.2.2.2.2.2.2.1
theorem dL_law_651 : decode cL_law 651 = .ok (.iload_n 3, 1) := bL_law_640.2.2.2.2.2.2.2.2.2.1
theorem dL_law_652 : decode cL_law 652 = .ok (.iconst 2, 1) := bL_law_640.2.2.2.2.2.2.2.2.2.2.1
theorem dL_law_653 : decode cL_law 653 = .ok (.iadd, 1) := bL_law_640.2.2.2.2.2.2.2.2.2.2.2.1
theorem dL_law_654 : decode cL_law 654 = .ok (.iaload, 1) := bL_law_640.2.2.2.2.2.2.2.2.2.2.2.2.1
theorem dL_law_655 : decode cL_law 655 = .ok (.invokevirtual 88, 3) := bL_law_640.2.2.2.2.2.2.2.2.2.2.2.2.2.1
theorem dL_law_658 : decode cL_law 658 = .ok (.pop, 1) := bL_law_640.2.2.2.2.2.2.2.2.2.2.2.2.2.2.1
theorem dL_law_659 : decode cL_law 659 = .ok (.goto 669, 3) := bL_law_640.2.2.2.2.2.2.2.2.2.2.2.2.2.2.2
theorem bL_law_662 : (decode cL_law 662 = .ok (.aload_n 1, 1)) ∧ (decode cL_law 663 = .ok (.aload_n 0, 1)) ∧ (decode cL_law 664 = .ok (.iload_n 3, 1)) ∧ (decode cL_law 665 = .ok (.iconst 1, 1)) ∧ (decode cL_law 666 = .ok (.iadd, 1)) ∧ (decode cL_law 667 = .ok (.iaload, 1)) ∧ (decode cL_law 668 = .ok (.aload_n 0, 1)) ∧ (decode cL_law 669 = .ok (.iload_n 3, 1)) ∧ (decode cL_law 670 = .ok (.iconst 2, 1)) ∧ (decode cL_law 671 = .ok (.iadd, 1)) ∧ (decode cL_law 672 = .ok (.iaload, 1)) ∧ (decode cL_law 673 = .ok (.invokevirtual 89, 3)) ∧ (decode cL_law 676 = .ok (.pop, 1)) ∧ (decode cL_law 677 = .ok (.aload_n 2, 1)) ∧ (decode cL_law 678 = .ok (.aload_n 0, 1)) ∧ (decode cL_law 679 = .ok (.iload_n 3, 1)) := by decide +kernel
theorem dL_law_662 : decode cL_law 662 = .ok (.aload_n 1, 1) := bL_law_662.1
theorem dL_law_663 : decode cL_law 663 = .ok (.aload_n 0, 1) := bL_law_662.2.1
theorem dL_law_664 : decode cL_law 664 = .ok (.iload_n 3, 1) := bL_law_662.2.2.1
theorem dL_law_665 : decode cL_law 665 = .ok (.iconst 1, 1) := bL_law_662.2.2.2.1
theorem dL_law_666 : decode cL_law 666 = .ok (.iadd, 1) := bL_law_662.2.2.2.2.1
theorem dL_law_667 : decode cL_law 667 = .ok (.iaload, 1) := bL_law_662.2.2.2.2.2.1
theorem dL_law_668 : decode cL_law 668 = .ok (.aload_n 0, 1) := bL_law_662.2.2.2.2.2.2.1
theorem dL_law_669 : decode cL_law 669 = .ok (.iload_n 3, 1) := bL_law_662.2.2.2.2.2.2.2.1
theorem dL_law_670 : decode cL_law 670 = .ok (.iconst 2, 1) := bL_law_662.2.2.2.2.2.2.2.2.1
theorem dL_law_671 : decode cL_law 671 = .ok (.iadd, 1) := bL_law_662.2.2.2.2.2.2.2.2.2.1
theorem dL_law_672 : decode cL_law 672 = .ok (.iaload, 1) := bL_law_662.2.2.2.2.2.2.2.2.2.2.1
theorem dL_law_673 : decode cL_law 673 = .ok (.invokevirtual 89, 3) := bL_law_662.2.2.2.2.2.2.2.2.2.2.2.1
theorem dL_law_676 : decode cL_law 676 = .ok (.pop, 1) := bL_law_662.2.2.2.2.2.2.2.2.2.2.2.2.1
theorem dL_law_677 : decode cL_law 677 = .ok (.aload_n 2, 1) := bL_law_662.2.2.2.2.2.2.2.2.2.2.2.2.2.1
theorem dL_law_678 : decode cL_law 678 = .ok (.aload_n 0, 1) := bL_law_662.2.2.2.2.2.2.2.2.2.2.2.2.2.2.1
theorem dL_law_679 : decode cL_law 679 = .ok (.iload_n 3, 1) := bL_law_662.2.2.2.2.2.2.2.2.2.2.2.2.2.2.2
theorem bL_law_680 : (decode cL_law 680 = .ok (.iconst 1, 1)) ∧ (decode cL_law 681 = .ok (.iadd, 1)) ∧ (decode cL_law 682 = .ok (.iaload, 1)) ∧ (decode cL_law 683 = .ok (.aload_n 0, 1)) ∧ (decode cL_law 684 = .ok (.iload_n 3, 1)) ∧ (decode cL_law 685 = .ok (.iconst 2, 1)) ∧ (decode cL_law 686 = .ok (.iadd, 1)) ∧ (decode cL_law 687 = .ok (.iaload, 1)) ∧ (decode cL_law 688 = .ok (.invokevirtual 92, 3)) ∧ (decode cL_law 691 = .ok (.pop, 1)) ∧ (decode cL_law 692 = .ok (.goto 636, 3)) ∧ (decode cL_law 695 = .ok (.aload_n 1, 1)) ∧ (decode cL_law 696 = .ok (.aload_n 0, 1)) ∧ (decode cL_law 697 = .ok (.iload_n 3, 1)) ∧ (decode cL_law 698 = .ok (.iconst 1, 1)) ∧ (decode cL_law 699 = .ok (.iadd, 1)) := by decide +kernel
theorem dL_law_680 : decode cL_law 680 = .ok (.iconst 1, 1) := bL_law_680.1
theorem dL_law_681 : decode cL_law 681 = .ok (.iadd, 1) := bL_law_680.2.1
theorem dL_law_682 : decode cL_law 682 = .ok (.iaload, 1) := bL_law_680.2.2.1
theorem dL_law_683 : decode cL_law 683 = .ok (.aload_n 0, 1) := bL_law_680.2.2.2.1
theorem dL_law_684 : decode cL_law 684 = .ok (.iload_n 3, 1) := bL_law_680.2.2.2.2.1
theorem dL_law_685 : decode cL_law 685 = .ok (.iconst 2, 1) := bL_law_680.2.2.2.2.2.1
theorem dL_law_686 : decode cL_law 686 = .ok (.iadd, 1) := bL_law_680.2.2.2.2.2.2.1
theorem dL_law_687 : decode cL_law 687 = .ok (.iaload, 1) := bL_law_680.2.2.2.2.2.2.2.1
theorem dL_law_688 : decode cL_law 688 = .ok (.invokevirtual 92, 3) := bL_law_680.2.2.2.2.2.2.2.2.1
theorem dL_law_691 : decode cL_law 691 = .ok (.pop, 1) := bL_law_680.2.2.2.2.2.2.2.2.2.1
theorem dL_law_692 : decode cL_law 692 = .ok (.goto 636, 3) := bL_law_680.2.2.2.2.2.2.2.2.2.2.1
theorem dL_law_695 : decode cL_law 695 = .ok (.aload_n 1, 1) := bL_law_680.2.2.2.2.2.2.2.2.2.2.2.1
theorem dL_law_696 : decode cL_law 696 = .ok (.aload_n 0, 1) := bL_law_680.2.2.2.2.2.2.2.2.2.2.2.2.1
theorem dL_law_697 : decode cL_law 697 = .ok (.iload_n 3, 1) := bL_law_680.2.2.2.2.2.2.2.2.2.2.2.2.2.1
theorem dL_law_698 : decode cL_law 698 = .ok (.iconst 1, 1) := bL_law_680.2.2.2.2.2.2.2.2.2.2.2.2.2.2.1
theorem dL_law_699 : decode cL_law 699 = .ok (.iadd, 1) := bL_law_680.2.2.2.2.2.2.2.2.2.2.2.2.2.2.2
theorem bL_law_700 : (decode cL_law 700 = .ok (.iaload, 1)) ∧ (decode cL_law 701 = .ok (.invokevirtual 93, 3)) ∧ (decode cL_law 704 = .ok (.pop, 1)) ∧ (decode cL_law 705 = .ok (.aload_n 2, 1)) ∧ (decode cL_law 706 = .ok (.aload_n 0, 1)) ∧ (decode cL_law 707 = .ok (.iload_n 3, 1)) ∧ (decode cL_law 708 = .ok (.iconst 1, 1)) ∧ (decode cL_law 709 = .ok (.iadd, 1)) ∧ (decode cL_law 710 = .ok (.iaload, 1)) ∧ (decode cL_law 711 = .ok (.invokevirtual 96, 3)) ∧ (decode cL_law 714 = .ok (.pop, 1)) ∧ (decode cL_law 715 = .ok (.goto 613, 3)) ∧ (decode cL_law 718 = .ok (.aload_n 1, 1)) ∧ (decode cL_law 719 = .ok (.aload_n 0, 1)) ∧ (decode cL_law 720 = .ok (.iload_n 3, 1)) ∧ (decode cL_law 721 = .ok (.iconst 1, 1)) := by decide +kernel
theorem dL_law_700 : decode cL_law 700 = .ok (.iaload, 1) := bL_law_700.1
theorem dL_law_701 : decode cL_law 701 = .ok (.invokevirtual 93, 3) := bL_law_700.2.1
theorem dL_law_704 : decode cL_law 704 = .ok (.pop, 1) := bL_law_700.2.2.1
theorem dL_law_705 : decode cL_law 705 = .ok (.aload_n 2, 1) := bL_law_700.2.2.2.1
theorem dL_law_706 : decode cL_law 706 = .ok (.aload_n 0, 1) := bL_law_700.2.2.2.2.1
theorem dL_law_707 : decode cL_law 707 = .ok (.iload_n 3, 1) := bL_law_700.2.2.2.2.2.1
theorem dL_law_708 : decode cL_law 708 = .ok (.iconst 1, 1) := bL_law_700.2.2.2.2.2.2.1
theorem dL_law_709 : decode cL_law 709 = .ok (.iadd, 1) := bL_law_700.2.2.2.2.2.2.2.1
theorem dL_law_710 : decode cL_law 710 = .ok (.iaload, 1) := bL_law_700.2.2.2.2.2.2.2.2.1
theorem dL_law_711 : decode cL_law 711 = .ok (.invokevirtual 96, 3) := bL_law_700.2.2.2.2.2.2.2.2.2.1
theorem dL_law_714 : decode cL_law 714 = .ok (.pop, 1) := bL_law_700.2.2.2.2.2.2.2.2.2.2.1
theorem dL_law_715 : decode cL_law 715 = .ok (.goto 613, 3) := bL_law_700.2.2.2.2.2.2.2.2.2.2.2.1
theorem dL_law_718 : decode cL_law 718 = .ok (.aload_n 1, 1) := bL_law_700.2.2.2.2.2.2.2.2.2.2.2.2.1
theorem dL_law_719 : decode cL_law 719 = .ok (.aload_n 0, 1) := bL_law_700.2.2.2.2.2.2.2.2.2.2.2.2.2.1
theorem dL_law_720 : decode cL_law 720 = .ok (.iload_n 3, 1) := bL_law_700.2.2.2.2.2.2.2.2.2.2.2.2.2.2.1
theorem dL_law_721 : decode cL_law 721 = .ok (.iconst 1, 1) := bL_law_700.2.2.2.2.2.2.2.2.2.2.2.2.2.2.2
theorem bL_law_722 : (decode cL_law 722 = .ok (.iadd, 1)) ∧ (decode cL_law 723 = .ok (.iaload, 1)) ∧ (decode cL_law 724 = .ok (.aload_n 0, 1)) ∧ (decode cL_law 725 = .ok (.iload_n 3, 1)) ∧ (decode cL_law 726 = .ok (.iconst 2, 1)) ∧ (decode cL_law 727 = .ok (.iadd, 1)) ∧ (decode cL_law 728 = .ok (.iaload, 1)) ∧ (decode cL_law 729 = .ok (.invokevirtual 97, 3)) ∧ (decode cL_law 732 = .ok (.pop, 1)) ∧ (decode cL_law 733 = .ok (.aload_n 2, 1)) ∧ (decode cL_law 734 = .ok (.aload_n 0, 1)) ∧ (decode cL_law 735 = .ok (.iload_n 3, 1)) ∧ (decode cL_law 736 = .ok (.iconst 1, 1)) ∧ (decode cL_law 737 = .ok (.iadd, 1)) ∧ (decode cL_law 738 = .ok (.iaload, 1)) ∧ (decode cL_law 739 = .ok (.aload_n 0, 1)) := by decide +kernel
theorem dL_law_722 : decode cL_law 722 = .ok (.iadd, 1) := bL_law_722.1
theorem dL_law_723 : decode cL_law 723 = .ok (.iaload, 1) := bL_law_722.2.1
theorem dL_law_724 : decode cL_law 724 = .ok (.aload_n 0, 1) := bL_law_722.2.2.1
theorem dL_law_725 : decode cL_law 725 = .ok (.iload_n 3, 1) := bL_law_722.2.2.2.1
theorem dL_law_726 : decode cL_law 726 = .ok (.iconst 2, 1) := bL_law_722.2.2.2.2.1
theorem dL_law_727 : decode cL_law 727 = .ok (.iadd, 1) := bL_law_722.2.2.2.2.2.1
theorem dL_law_728 : decode cL_law 728 = .ok (.iaload, 1) := bL_law_722.2.2.2.2.2.2.1
theorem dL_law_729 : decode cL_law 729 = .ok (.invokevirtual 97, 3) := bL_law_722.2.2.2.2.2.2.2.1
theorem dL_law_732 : decode cL_law 732 = .ok (.pop, 1) := bL_law_722.2.2.2.2.2.2.2.2.1
theorem dL_law_733 : decode cL_law 733 = .ok (.aload_n 2, 1) := bL_law_722.2.2.2.2.2.2.2.2.2.1
theorem dL_law_734 : decode cL_law 734 = .ok (.aload_n 0, 1) := bL_law_722.2.2.2.2.2.2.2.2.2.2.1
theorem dL_law_735 : decode cL_law 735 = .ok (.iload_n 3, 1) := bL_law_722.2.2.2.2.2.2.2.2.2.2.2.1
theorem dL_law_736 : decode cL_law 736 = .ok (.iconst 1, 1) := bL_law_722.2.2.2.2.2.2.2.2.2.2.2.2.1
theorem dL_law_737 : decode cL_law 737 = .ok (.iadd, 1) := bL_law_722.2.2.2.2.2.2.2.2.2.2.2.2.2.1
theorem dL_law_738 : decode cL_law 738 = .ok (.iaload, 1) := bL_law_722.2.2.2.2.2.2.2.2.2.2.2.2.2.2.1
theorem dL_law_739 : decode cL_law 739 = .ok (.aload_n 0, 1) := bL_law_722.2.2.2.2.2.2.2.2.2.2.2.2.2.2.2
theorem bL_law_740 : (decode cL_law 740 = .ok (.iload_n 3, 1)) ∧ (decode cL_law 741 = .ok (.iconst 2, 1)) ∧ (decode cL_law 742 = .ok (.iadd, 1)) ∧ (decode cL_law 743 = .ok (.iaload, 1)) ∧ (decode cL_law 744 = .ok (.invokevirtual 100, 3)) ∧ (decode cL_law 747 = .ok (.pop, 1)) ∧ (decode cL_law 748 = .ok (.goto 580, 3)) ∧ (decode cL_law 751 = .ok (.aload_n 1, 1)) ∧ (decode cL_law 752 = .ok (.aload_n 0, 1)) ∧ (decode cL_law 753 = .ok (.iload_n 3, 1)) ∧ (decode cL_law 754 = .ok (.iconst 1, 1)) ∧ (decode cL_law 755 = .ok (.iadd, 1)) ∧ (decode cL_law 756 = .ok (.iaload, 1)) ∧ (decode cL_law 757 = .ok (.aload_n 0, 1)) ∧ (decode cL_law 758 = .ok (.iload_n 3, 1)) ∧ (decode cL_law 759 = .ok (.iconst 2, 1)) := by decide +kernel
theorem dL_law_740 : decode cL_law 740 = .ok (.iload_n 3, 1) := bL_law_740.1
theorem dL_law_741 : decode cL_law 741 = .ok (.iconst 2, 1) := bL_law_740.2.1
theorem dL_law_742 : decode cL_law 742 = .ok (.iadd, 1) := bL_law_740.2.2.1
theorem dL_law_743 : decode cL_law 743 = .ok (.iaload, 1) := bL_law_740.2.2.2.1
theorem dL_law_744 : decode cL_law 744 = .ok (.invokevirtual 100, 3) := bL_law_740.2.2.2.2.1
theorem dL_law_747 : decode cL_law 747 = .ok (.pop, 1) := bL_law_740.2.2.2.2.2.1
theorem dL_law_748 : decode cL_law 748 = .ok (.goto 580, 3) := bL_law_740.2.2.2.2.2.2.1
theorem dL_law_751 : decode cL_law 751 = .ok (.aload_n 1, 1) := bL_law_740.2.2.2.2.2.2.2.1
theorem dL_law_752 : decode cL_law 752 = .ok (.aload_n 0, 1) := bL_law_740.2.2.2.2.2.2.2.2.1
theorem dL_law_753 : decode cL_law 753 = .ok (.iload_n 3, 1) := bL_law_740.2.2.2.2.2.2.2.2.2.1
theorem dL_law_754 : decode cL_law 754 = .ok (.iconst 1, 1) := bL_law_740.2.2.2.2.2.2.2.2.2.2.1
theorem dL_law_755 : decode cL_law 755 = .ok (.iadd, 1) := bL_law_740.2.2.2.2.2.2.2.2.2.2.2.1
theorem dL_law_756 : decode cL_law 756 = .ok (.iaload, 1) := bL_law_740.2.2.2.2.2.2.2.2.2.2.2.2.1
theorem dL_law_757 : decode cL_law 757 = .ok (.aload_n 0, 1) := bL_law_740.2.2.2.2.2.2.2.2.2.2.2.2.2.1
theorem dL_law_758 : decode cL_law 758 = .ok (.iload_n 3, 1) := bL_law_740.2.2.2.2.2.2.2.2.2.2.2.2.2.2.1
theorem dL_law_759 : decode cL_law 759 = .ok (.iconst 2, 1) := bL_law_740.2.2.2.2.2.2.2.2.2.2.2.2.2.2.2
theorem bL_law_760 : (decode cL_law 760 = .ok (.iadd, 1)) ∧ (decode cL_law 761 = .ok (.iaload, 1)) ∧ (decode cL_law 762 = .ok (.aload_n 0, 1)) ∧ (decode cL_law 763 = .ok (.iload_n 3, 1)) ∧ (decode cL_law 764 = .ok (.iconst 3, 1)) ∧ (decode cL_law 765 = .ok (.iadd, 1)) ∧ (decode cL_law 766 = .ok (.iaload, 1)) ∧ (decode cL_law 767 = .ok (.aload_n 0, 1)) ∧ (decode cL_law 768 = .ok (.iload_n 3, 1)) ∧ (decode cL_law 769 = .ok (.iconst 4, 1)) ∧ (decode cL_law 770 = .ok (.iadd, 1)) ∧ (decode cL_law 771 = .ok (.iaload, 1)) ∧ (decode cL_law 772 = .ok (.invokevirtual 101, 3)) ∧ (decode cL_law 775 = .ok (.pop, 1)) ∧ (decode cL_law 776 = .ok (.aload_n 2, 1)) ∧ (decode cL_law 777 = .ok (.aload_n 0, 1)) := by decide +kernel
theorem dL_law_760 : decode cL_law 760 = .ok (.iadd, 1) := bL_law_760.1
theorem dL_law_761 : decode cL_law 761 = .ok (.iaload, 1) := bL_law_760.2.1
theorem dL_law_762 : decode cL_law 762 = .ok (.aload_n 0, 1) := bL_law_760.2.2.1
theorem dL_law_763 : decode cL_law 763 = .ok (.iload_n 3, 1) := bL_law_760.2.2.2.1
theorem dL_law_764 : decode cL_law 764 = .ok (.iconst 3, 1) := bL_law_760.2.2.2.2.1
theorem dL_law_765 : decode cL_law 765 = .ok (.iadd, 1) := bL_law_760.2.2.2.2.2.1
theorem dL_law_766 : decode cL_law 766 = .ok (.iaload, 1) := bL_law_760.2.2.2.2.2.2.1
theorem dL_law_767 : decode cL_law 767 = .ok (.aload_n 0, 1) := bL_law_760.2.2.2.2.2.2.2.1
theorem dL_law_768 : decode cL_law 768 = .ok (.iload_n 3, 1) := bL_law_760.2.2.2.2.2.2.2.2.1
theorem dL_law_769 : decode cL_law 769 = .ok (.iconst 4, 1) := bL_law_760.2.2.2.2.2.2.2.2.2.1
theorem dL_law_770 : decode cL_law 770 = .ok (.iadd, 1) := bL_law_760.2.2.2.2.2.2.2.2.2.2.1
theorem dL_law_771 : decode cL_law 771 = .ok (.iaload, 1) := bL_law_760.2.2.2.2.2.2.2.2.2.2.2.1
theorem dL_law_772 : decode cL_law 772 = .ok (.invokevirtual 101, 3) := bL_law_760.2.2.2.2.2.2.2.2.2.2.2.2.1
theorem dL_law_775 : decode cL_law 775 = .ok (.pop, 1) := bL_law_760.2.2.2.2.2.2.2.2.2.2.2.2.2.1
theorem dL_law_776 : decode cL_law 776 = .ok (.aload_n 2, 1) := bL_law_760.2.2.2.2.2.2.2.2.2.2.2.2.2.2.1
theorem dL_law_777 : decode cL_law 777 = .ok (.aload_n 0, 1) := bL_law_760.2.2.2.2.2.2.2.2.2.2.2.2.2.2.2
theorem bL_law_778 : (decode cL_law 778 = .ok (.iload_n 3, 1)) ∧ (decode cL_law 779 = .ok (.iconst 1, 1)) ∧ (decode cL_law 780 = .ok (.iadd, 1)) ∧ (decode cL_law 781 = .ok (.iaload, 1)) ∧ (decode cL_law 782 = .ok (.aload_n 0, 1)) ∧ (decode cL_law 783 = .ok (.iload_n 3, 1)) ∧ (decode cL_law 784 = .ok (.iconst 2, 1)) ∧ (decode cL_law 785 = .ok (.iadd, 1)) ∧ (decode cL_law 786 = .ok (.iaload, 1)) ∧ (decode cL_law 787 = .ok (.aload_n 0, 1)) ∧ (decode cL_law 788 = .ok (.iload_n 3, 1)) ∧ (decode cL_law 789 = .ok (.iconst 3, 1)) ∧ (decode cL_law 790 = .ok (.iadd, 1)) ∧ (decode cL_law 791 = .ok (.iaload, 1)) ∧ (decode cL_law 792 = .ok (.aload_n 0, 1)) ∧ (decode cL_law 793 = .ok (.iload_n 3, 1)) := by decide +kernel
theorem dL_law_778 : decode cL_law 778 = .ok (.iload_n 3, 1) := bL_law_778.1
theorem dL_law_779 : decode cL_law 779 = .ok (.iconst 1, 1) := bL_law_778.2.1
theorem dL_law_780 : decode cL_law 780 = .ok (.iadd, 1) := bL_law_778.2.2.1
theorem dL_law_781 : decode cL_law 781 = .ok (.iaload, 1) := bL_law_778.2.2.2.1
theorem dL_law_782 : decode cL_law 782 = .ok (.aload_n 0, 1) := bL_law_778.2.2.2.2.1
theorem dL_law_783 : decode cL_law 783 = .ok (.iload_n 3, 1) := bL_law_778.2.2.2.2.2.1
theorem dL_law_784 : decode cL_law 784 = .ok (.iconst 2, 1) := bL_law_778.2.2.2.2.2.2.1
theorem dL_law_785 : decode cL_law 785 = .ok (.iadd, 1) := bL_law_778.2.2.2.2.2.2.2.1
theorem dL_law_786 : decode cL_law 786 = .ok (.iaload, 1) := bL_law_778.2.2.2.2.2.2.2.2.1
theorem dL_law_787 : decode cL_law 787 = .ok (.aload_n 0, 1) := bL_law_778.2.2.2.2.2.2.2.2.2.1
theorem dL_law_788 : decode cL_law 788 = .ok (.iload_n 3, 1) := bL_law_778.2.2.2.2.2.2.2.2.2.2.1
theorem dL_law_789 : decode cL_law 789 = .ok (.iconst 3, 1) := bL_law_778.2.2.2.2.2.2.2.2.2.2.2.1
theorem dL_law_790 : decode cL_law 790 = .ok (.iadd, 1) := bL_law_778.2.2.2.2.2.2.2.2.2.2.2.2.1
theorem dL_law_791 : decode cL_law 791 = .ok (.iaload, 1) := bL_law_778.2.2.2.2.2.2.2.2.2.2.2.2.2.1
theorem dL_law_792 : decode cL_law 792 = .ok (.aload_n 0, 1) := bL_law_778.2.2.2.2.2.2.2.2.2.2.2.2.2.2.1
theorem dL_law_793 : decode cL_law 793 = .ok (.iload_n 3, 1) := bL_law_778.2.2.2.2.2.2.2.2.2.2.2.2.2.2.2
theorem bL_law_794 : (decode cL_law 794 = .ok (.iconst 4, 1)) ∧ (decode cL_law 795 = .ok (.iadd, 1)) ∧ (decode cL_law 796 = .ok (.iaload, 1)) ∧ (decode cL_law 797 = .ok (.invokevirtual 105, 3)) ∧ (decode cL_law 800 = .ok (.pop, 1)) ∧ (decode cL_law 801 = .ok (.goto 527, 3)) ∧ (decode cL_law 804 = .ok (.aload_n 1, 1)) ∧ (decode cL_law 805 = .ok (.aload_n 0, 1)) ∧ (decode cL_law 806 = .ok (.iload_n 3, 1)) ∧ (decode cL_law 807 = .ok (.iconst 1, 1)) ∧ (decode cL_law 808 = .ok (.iadd, 1)) ∧ (decode cL_law 809 = .ok (.iaload, 1)) ∧ (decode cL_law 810 = .ok (.aload_n 0, 1)) ∧ (decode cL_law 811 = .ok (.iload_n 3, 1)) ∧ (decode cL_law 812 = .ok (.iconst 2, 1)) ∧ (decode cL_law 813 = .ok (.iadd, 1)) := by decide +kernel
theorem dL_law_794 : decode cL_law 794 = .ok (.iconst 4, 1) := bL_law_794.1
theorem dL_law_795 : decode cL_law 795 = .ok (.iadd, 1) := bL_law_794.2.1
theorem dL_law_796 : decode cL_law 796 = .ok (.iaload, 1) := bL_law_794.2.2.1
theorem dL_law_797 : decode cL_law 797 = .ok (.invokevirtual 105, 3) := bL_law_794.2.2.2.1
theorem dL_law_800 : decode cL_law 800 = .ok (.pop, 1) := bL_law_794.2.2.2.2.1
theorem dL_law_801 : decode cL_law 801 = .ok (.goto 527, 3) := bL_law_794.2.2.2.2.2.1
theorem dL_law_804 : decode cL_law 804 = .ok (.aload_n 1, 1) := bL_law_794.2.2.2.2.2.2.1
theorem dL_law_805 : decode cL_law 805 = .ok (.aload_n 0, 1) := bL_law_794.2.2.2.2.2.2.2.1
theorem dL_law_806 : decode cL_law 806 = .ok (.iload_n 3, 1) := bL_law_794.2.2.2.2.2.2.2.2.1
theorem dL_law_807 : decode cL_law 807 = .ok (.iconst 1, 1) := bL_law_794.2.2.2.2.2.2.2.2.2.1
theorem dL_law_808 : decode cL_law 808 = .ok (.iadd, 1) := bL_law_794.2.2.2.2.2.2.2.2.2.2.1
theorem dL_law_809 : decode cL_law 809 = .ok (.iaload, 1) := bL_law_794.2.2.2.2.2.2.2.2.2.2.2.1
theorem dL_law_810 : decode cL_law 810 = .ok (.aload_n 0, 1) := bL_law_794.2.2.2.2.2.2.2.2.2.2.2.2.1
theorem dL_law_811 : decode cL_law 811 = .ok (.iload_n 3, 1) := bL_law_794.2.2.2.2.2.2.2.2.2.2.2.2.2.1
theorem dL_law_812 : decode cL_law 812 = .ok (.iconst 2, 1) := bL_law_794.2.2.2.2.2.2.2.2.2.2.2.2.2.2.1
theorem dL_law_813 : decode cL_law 813 = .ok (.iadd, 1) := bL_law_794.2.2.2.2.2.2.2.2.2.2.2.2.2.2.2
theorem bL_law_814 : (decode cL_law 814 = .ok (.iaload, 1)) ∧ (decode cL_law 815 = .ok (.invokevirtual 106, 3)) ∧ (decode cL_law 818 = .ok (.pop, 1)) ∧ (decode cL_law 819 = .ok (.aload_n 2, 1)) ∧ (decode cL_law 820 = .ok (.aload_n 0, 1)) ∧ (decode cL_law 821 = .ok (.iload_n 3, 1)) ∧ (decode cL_law 822 = .ok (.iconst 1, 1)) ∧ (decode cL_law 823 = .ok (.iadd, 1)) ∧ (decode cL_law 824 = .ok (.iaload, 1)) ∧ (decode cL_law 825 = .ok (.aload_n 0, 1)) ∧ (decode cL_law 826 = .ok (.iload_n 3, 1)) ∧ (decode cL_law 827 = .ok (.iconst 2, 1)) ∧ (decode cL_law 828 = .ok (.iadd, 1)) ∧ (decode cL_law 829 = .ok (.iaload, 1)) ∧ (decode cL_law 830 = .ok (.invokevirtual 109, 3)) ∧ (decode cL_law 833 = .ok (.pop, 1)) := by decide +kernel
theorem dL_law_814 : decode cL_law 814 = .ok (.iaload, 1) := bL_law_814.1
theorem dL_law_815 : decode cL_law 815 = .ok (.invokevirtual 106, 3) := bL_law_814.2.1
theorem dL_law_818 : decode cL_law 818 = .ok (.pop, 1) := bL_law_814.2.2.1
theorem dL_law_819 : decode cL_law 819 = .ok (.aload_n 2, 1) := bL_law_814.2.2.2.1
theorem dL_law_820 : decode cL_law 820 = .ok (.aload_n 0, 1) := bL_law_814.2.2.2.2.1
theorem dL_law_821 : decode cL_law 821 = .ok (.iload_n 3, 1) := bL_law_814.2.2.2.2.2.1
theorem dL_law_822 : decode cL_law 822 = .ok (.iconst 1, 1) := bL_law_814.2.2.2.2.2.2.1
theorem dL_law_823 : decode cL_law 823 = .ok (.iadd, 1) := bL_law_814.2.2.2.2.2.2.2.1
theorem dL_law_824 : decode cL_law 824 = .ok (.iaload, 1) := bL_law_814.2.2.2.2.2.2.2.2.1
theorem dL_law_825 : decode cL_law 825 = .ok (.aload_n 0, 1) := bL_law_814.2.2.2.2.2.2.2.2.2.1
theorem dL_law_826 : decode cL_law 826 = .ok (.iload_n 3, 1) := bL_law_814.2.2.2.2.2.2.2.2.2.2.1
theorem dL_law_827 : decode cL_law 827 = .ok (.iconst 2, 1) := bL_law_814.2.2.2.2.2.2.2.2.2.2.2.1
theorem dL_law_828 : decode cL_law 828 = .ok (.iadd, 1) := bL_law_814.2.2.2.2.2.2.2.2.2.2.2.2.1
theorem dL_law_829 : decode cL_law 829 = .ok (.iaload, 1) := bL_law_814.2.2.2.2.2.2.2.2.2.2.2.2.2.1
theorem dL_law_830 : decode cL_law 830 = .ok (.invokevirtual 109, 3) := bL_law_814.2.2.2.2.2.2.2.2.2.2.2.2.2.2.1
theorem dL_law_833 : decode cL_law 833 = .ok (.pop, 1) := bL_law_814.2.2.2.2.2.2.2.2.2.2.2.2.2.2.2
theorem bL_law_834 : (decode cL_law 834 = .ok (.goto 494, 3)) ∧ (decode cL_law 837 = .ok (.aload_n 1, 1)) ∧ (decode cL_law 838 = .ok (.aload_n 0, 1)) ∧ (decode cL_law 839 = .ok (.iload_n 3, 1)) ∧ (decode cL_law 840 = .ok (.iconst 1, 1)) ∧ (decode cL_law 841 = .ok (.iadd, 1)) ∧ (decode cL_law 842 = .ok (.iaload, 1)) ∧ (decode cL_law 843 = .ok (.invokevirtual 110, 3)) ∧ (decode cL_law 846 = .ok (.aload_n 2, 1)) ∧ (decode cL_law 847 = .ok (.aload_n 0, 1)) ∧ (decode cL_law 848 = .ok (.iload_n 3, 1)) ∧ (decode cL_law 849 = .ok (.iconst 1, 1)) ∧ (decode cL_law 850 = .ok (.iadd, 1)) ∧ (decode cL_law 851 = .ok (.iaload, 1)) ∧ (decode cL_law 852 = .ok (.invokevirtual 113, 3)) ∧ (decode cL_law 855 = .ok (.if_icmp .eq 473, 3)) := by decide +kernel
theorem dL_law_834 : decode cL_law 834 = .ok (.goto 494, 3) := bL_law_834.1
theorem dL_law_837 : decode cL_law 837 = .ok (.aload_n 1, 1) := bL_law_834.2.1
theorem dL_law_838 : decode cL_law 838 = .ok (.aload_n 0, 1) := bL_law_834.2.2.1
theorem dL_law_839 : decode cL_law 839 = .ok (.iload_n 3, 1) := bL_law_834.2.2.2.1
theorem dL_law_840 : decode cL_law 840 = .ok (.iconst 1, 1) := bL_law_834.2.2.2.2.1
theorem dL_law_841 : decode cL_law 841 = .ok (.iadd, 1) := bL_law_834.2.2.2.2.2.1
theorem dL_law_842 : decode cL_law 842 = .ok (.iaload, 1) := bL_law_834.2.2.2.2.2.2.1
theorem dL_law_843 : decode cL_law 843 = .ok (.invokevirtual 110, 3) := bL_law_834.2.2.2.2.2.2.2.1
theorem dL_law_846 : decode cL_law 846 = .ok (.aload_n 2, 1) := bL_law_834.2.2.2.2.2.2.2.2.1
theorem dL_law_847 : decode cL_law 847 = .ok (.aload_n 0, 1) := bL_law_834.2.2.2.2.2.2.2.2.2.1
theorem dL_law_848 : decode cL_law 848 = .ok (.iload_n 3, 1) := bL_law_834.2.2.2.2.2.2.2.2.2.2.1
theorem dL_law_849 : decode cL_law 849 = .ok (.iconst 1, 1) := bL_law_834.2.2.2.2.2.2.2.2.2.2.2.1
theorem dL_law_850 : decode cL_law 850 = .ok (.iadd, 1) := bL_law_834.2.2.2.2.2.2.2.2.2.2.2.2.1
theorem dL_law_851 : decode cL_law 851 = .ok (.iaload, 1) := bL_law_834.2.2.2.2.2.2.2.2.2.2.2.2.2.1
theorem dL_law_852 : decode cL_law 852 = .ok (.invokevirtual 113, 3) := bL_law_834.2.2.2.2.2.2.2.2.2.2.2.2.2.2.1
theorem dL_law_855 : decode cL_law 855 = .ok (.if_icmp .eq 473, 3) := bL_law_834.2.2.2.2.2.2.2.2.2.2.2.2.2.2.2
theorem bL_law_858 : (decode cL_law 858 = .ok (.iconst 0, 1)) ∧ (decode cL_law 859 = .ok (.ireturn, 1)) ∧ (decode cL_law 860 = .ok (.aload_n 1, 1)) ∧ (decode cL_law 861 = .ok (.aload_n 0, 1)) ∧ (decode cL_law 862 = .ok (.iload_n 3, 1)) ∧ (decode cL_law 863 = .ok (.iconst 1, 1)) ∧ (decode cL_law 864 = .ok (.iadd, 1)) ∧ (decode cL_law 865 = .ok (.iaload, 1)) ∧ (decode cL_law 866 = .ok (.aload_n 0, 1)) ∧ (decode cL_law 867 = .ok (.iload_n 3, 1)) ∧ (decode cL_law 868 = .ok (.iconst 2, 1)) ∧ (decode cL_law 869 = .ok (.iadd, 1)) ∧ (decode cL_law 870 = .ok (.iaload, 1)) ∧ (decode cL_law 871 = .ok (.aload_n 0, 1)) ∧ (decode cL_law 872 = .ok (.iload_n 3, 1)) ∧ (decode cL_law 873 = .ok (.iconst 3, 1)) := by decide +kernel
theorem dL_law_858 : decode cL_law 858 = .ok (.iconst 0, 1) := bL_law_858.1
theorem dL_law_859 : decode cL_law 859 = .ok (.ireturn, 1) := bL_law_858.2.1
theorem dL_law_860 : decode cL_law 860 = .ok (.aload_n 1, 1) := bL_law_858.2.2.1
theorem dL_law_861 : decode cL_law 861 = .ok (.aload_n 0, 1) := bL_law_858.2.2.2.1
theorem dL_law_862 : decode cL_law 862 = .ok (.iload_n 3, 1) := bL_law_858.2.2.2.2.1
theorem dL_law_863 : decode cL_law 863 = .ok (.iconst 1, 1) := bL_law_858.2.2.2.2.2.1
theorem dL_law_864 : decode cL_law 864 = .ok (.iadd, 1) := bL_law_858.2.2.2.2.2.2.1
theorem dL_law_865 : decode cL_law 865 = .ok (.iaload, 1) := bL_law_858.2.2.2.2.2.2.2.1
theorem dL_law_866 : decode cL_law 866 = .ok (.aload_n 0, 1) := bL_law_858.2.2.2.2.2.2.2.2.1
theorem dL_law_867 : decode cL_law 867 = .ok (.iload_n 3, 1) := bL_law_858.2.2.2.2.2.2.2.2.2.1
theorem dL_law_868 : decode cL_law 868 = .ok (.iconst 2, 1) := bL_law_858.2.2.2.2.2.2.2.2.2.2.1
theorem dL_law_869 : decode cL_law 869 = .ok (.iadd, 1) := bL_law_858.2.2.2.2.2.2.2.2.2.2.2.1
theorem dL_law_870 : decode cL_law 870 = .ok (.iaload, 1) := bL_law_858.2.2.2.2.2.2.2.2.2.2.2.2.1
theorem dL_law_871 : decode cL_law 871 = .ok (.aload_n 0, 1) := bL_law_858.2.2.2.2.2.2.2.2.2.2.2.2.2.1
theorem dL_law_872 : decode cL_law 872 = .ok (.iload_n 3, 1) := bL_law_858.2.2.2.2.2.2.2.2.2.2.2.2.2.2.1
theorem dL_law_873 : decode cL_law 873 = .ok (.iconst 3, 1) := bL_law_858.2.2.2.2.2.2.2.2.2.2.2.2.2.2.2
theorem bL_law_874 : (decode cL_law 874 = .ok (.iadd, 1)) ∧ (decode cL_law 875 = .ok (.iaload, 1)) ∧ (decode cL_law 876 = .ok (.aload_n 0, 1)) ∧ (decode cL_law 877 = .ok (.iload_n 3, 1)) ∧ (decode cL_law 878 = .ok (.iconst 4, 1)) ∧ (decode cL_law 879 = .ok (.iadd, 1)) ∧ (decode cL_law 880 = .ok (.iaload, 1)) ∧ (decode cL_law 881 = .ok (.invokevirtual 114, 3)) ∧ (decode cL_law 884 = .ok (.pop, 1)) ∧ (decode cL_law 885 = .ok (.aload_n 2, 1)) ∧ (decode cL_law 886 = .ok (.aload_n 0, 1)) ∧ (decode cL_law 887 = .ok (.iload_n 3, 1)) ∧ (decode cL_law 888 = .ok (.iconst 1, 1)) ∧ (decode cL_law 889 = .ok (.iadd, 1)) ∧ (decode cL_law 890 = .ok (.iaload, 1)) ∧ (decode cL_law 891 = .ok (.aload_n 0, 1)) := by decide +kernel
theorem dL_law_874 : decode cL_law 874 = .ok (.iadd, 1) := bL_law_874.1
theorem dL_law_875 : decode cL_law 875 = .ok (.iaload, 1) := bL_law_874.2.1
theorem dL_law_876 : decode cL_law 876 = .ok (.aload_n 0, 1) := bL_law_874.2.2.1
theorem dL_law_877 : decode cL_law 877 = .ok (.iload_n 3, 1) := bL_law_874.2.2.2.1
theorem dL_law_878 : decode cL_law 878 = .ok (.iconst 4, 1) := bL_law_874.2.2.2.2.1
theorem dL_law_879 : decode cL_law 879 = .ok (.iadd, 1) := bL_law_874.2.2.2.2.2.1
theorem dL_law_880 : decode cL_law 880 = .ok (.iaload, 1) := bL_law_874.2.2.2.2.2.2.1
theorem dL_law_881 : decode cL_law 881 = .ok (.invokevirtual 114, 3) := bL_law_874.2.2.2.2.2.2.2.1
theorem dL_law_884 : decode cL_law 884 = .ok (.pop, 1) := bL_law_874.2.2.2.2.2.2.2.2.1
theorem dL_law_885 : decode cL_law 885 = .ok (.aload_n 2, 1) := bL_law_874.2.2.2.2.2.2.2.2.2.1
theorem dL_law_886 : decode cL_law 886 = .ok (.aload_n 0, 1) := bL_law_874.2.2.2.2.2.2.2.2.2.2.1
theorem dL_law_887 : decode cL_law 887 = .ok (.iload_n 3, 1) := bL_law_874.2.2.2.2.2.2.2.2.2.2.2.1
theorem dL_law_888 : decode cL_law 888 = .ok (.iconst 1, 1) := bL_law_874.2.2.2.2.2.2.2.2.2.2.2.2.1
theorem dL_law_889 : decode cL_law 889 = .ok (.iadd, 1) := bL_law_874.2.2.2.2.2.2.2.2.2.2.2.2.2.1
theorem dL_law_890 : decode cL_law 890 = .ok (.iaload, 1) := bL_law_874.2.2.2.2.2.2.2.2.2.2.2.2.2.2.1
theorem dL_law_891 : decode cL_law 891 = .ok (.aload_n 0, 1) := bL_law_874.2.2.2.2.2.2.2.2.2.2.2.2.2.2.2
theorem bL_law_892 : (decode cL_law 892 = .ok (.iload_n 3, 1)) ∧ (decode cL_law 893 = .ok (.iconst 2, 1)) ∧ (decode cL_law 894 = .ok (.iadd, 1)) ∧ (decode cL_law 895 = .ok (.iaload, 1)) ∧ (decode cL_law 896 = .ok (.aload_n 0, 1)) ∧ (decode cL_law 897 = .ok (.iload_n 3, 1)) ∧ (decode cL_law 898 = .ok (.iconst 3, 1)) ∧ (decode cL_law 899 = .ok (.iadd, 1)) ∧ (decode cL_law 900 = .ok (.iaload, 1)) ∧ (decode cL_law 901 = .ok (.aload_n 0, 1)) ∧ (decode cL_law 902 = .ok (.iload_n 3, 1)) ∧ (decode cL_law 903 = .ok (.iconst 4, 1)) ∧ (decode cL_law 904 = .ok (.iadd, 1)) ∧ (decode cL_law 905 = .ok (.iaload, 1)) ∧ (decode cL_law 906 = .ok (.invokevirtual 117, 3)) ∧ (decode cL_law 909 = .ok (.pop, 1)) := by decide +kernel
theorem dL_law_892 : decode cL_law 892 = .ok (.iload_n 3, 1) := bL_law_892.1
theorem dL_law_893 : decode cL_law 893 = .ok (.iconst 2, 1) := bL_law_892.2.1
theorem dL_law_894 : decode cL_law 894 = .ok (.iadd, 1) := bL_law_892.2.2.1
theorem dL_law_895 : decode cL_law 895 = .ok (.iaload, 1) := bL_law_892.2.2.2.1
theorem dL_law_896 : decode cL_law 896 = .ok (.aload_n 0, 1) := bL_law_892.2.2.2.2.1
theorem dL_law_897 : decode cL_law 897 = .ok (.iload_n 3, 1) := bL_law_892.2.2.2.2.2.1
theorem dL_law_898 : decode cL_law 898 = .ok (.iconst 3, 1) := bL_law_892.2.2.2.2.2.2.1
theorem dL_law_899 : decode cL_law 899 = .ok (.iadd, 1) := bL_law_892.2.2.2.2.2.2.2.1
theorem dL_law_900 : decode cL_law 900 = .ok (.iaload, 1) := bL_law_892.2.2.2.2.2.2.2.2.1
theorem dL_law_901 : decode cL_law 901 = .ok (.aload_n 0, 1) := bL_law_892.2.2.2.2.2.2.2.2.2.1
theorem dL_law_902 : decode cL_law 902 = .ok (.iload_n 3, 1) := bL_law_892.2.2.2.2.2.2.2.2.2.2.1
theorem dL_law_903 : decode cL_law 903 = .ok (.iconst 4, 1) := bL_law_892.2.2.2.2.2.2.2.2.2.2.2.1
theorem dL_law_904 : decode cL_law 904 = .ok (.iadd, 1) := bL_law_892.2.2.2.2.2.2.2.2.2.2.2.2.1
theorem dL_law_905 : decode cL_law 905 = .ok (.iaload, 1) := bL_law_892.2.2.2.2.2.2.2.2.2.2.2.2.2.1
theorem dL_law_906 : decode cL_law 906 = .ok (.invokevirtual 117, 3) := bL_law_892.2.2.2.2.2.2.2.2.2.2.2.2.2.2.1
theorem dL_law_909 : decode cL_law 909 = .ok (.pop, 1) := bL_law_892.2.2.2.2.2.2.2.2.2.2.2.2.2.2.2
theorem bL_law_910 : (decode cL_law 910 = .ok (.goto 418, 3)) ∧ (decode cL_law 913 = .ok (.aload_n 1, 1)) ∧ (decode cL_law 914 = .ok (.aload_n 0, 1)) ∧ (decode cL_law 915 = .ok (.iload_n 3, 1)) ∧ (decode cL_law 916 = .ok (.iconst 1, 1)) ∧ (decode cL_law 917 = .ok (.iadd, 1)) ∧ (decode cL_law 918 = .ok (.iaload, 1)) ∧ (decode cL_law 919 = .ok (.aload_n 0, 1)) ∧ (decode cL_law 920 = .ok (.iload_n 3, 1)) ∧ (decode cL_law 921 = .ok (.iconst 2, 1)) ∧ (decode cL_law 922 = .ok (.iadd, 1)) ∧ (decode cL_law 923 = .ok (.iaload, 1)) ∧ (decode cL_law 924 = .ok (.aload_n 0, 1)) ∧ (decode cL_law 925 = .ok (.iload_n 3, 1)) ∧ (decode cL_law 926 = .ok (.iconst 3, 1)) ∧ (decode cL_law 927 = .ok (.iadd, 1)) := by decide +kernel
theorem dL_law_910 : decode cL_law 910 = .ok (.goto 418, 3) := bL_law_910.1
theorem dL_law_913 : decode cL_law 913 = .ok (.aload_n 1, 1) := bL_law_910.2.1
theorem dL_law_914 : decode cL_law 914 = .ok (.aload_n 0, 1) := bL_law_910.2.2.1
theorem dL_law_915 : decode cL_law 915 = .ok (.iload_n 3, 1) := bL_law_910.2.2.2.1
theorem dL_law_916 : decode cL_law 916 = .ok (.iconst 1, 1) := bL_law_910.2.2.2.2.1
theorem dL_law_917 : decode cL_law 917 = .ok (.iadd, 1) := bL_law_910.2.2.2.2.2.1
theorem dL_law_918 : decode cL_law 918 = .ok (.iaload, 1) := bL_law_910.2.2.2.2.2.2.1
theorem dL_law_919 : decode cL_law 919 = .ok (.aload_n 0, 1) := bL_law_910.2.2.2.2.2.2.2.1
theorem dL_law_920 : decode cL_law 920 = .ok (.iload_n 3, 1) := bL_law_910.2.2.2.2.2.2.2.2.1
theorem dL_law_921 : decode cL_law 921 = .ok (.iconst 2, 1) := bL_law_910.2.2.2.2.2.2.2.2.2.1
theorem dL_law_922 : decode cL_law 922 = .ok (.iadd, 1) := bL_law_910.2.2.2.2.2.2.2.2.2.2.1
theorem dL_law_923 : decode cL_law 923 = .ok (.iaload, 1) := bL_law_910.2.2.2.2.2.2.2.2.2.2.2.1
theorem dL_law_924 : decode cL_law 924 = .ok (.aload_n 0, 1) := bL_law_910.2.2.2.2.2.2.2.2.2.2.2.2.1
theorem dL_law_925 : decode cL_law 925 = .ok (.iload_n 3, 1) := bL_law_910.2.2.2.2.2.2.2.2.2.2.2.2.2.1
theorem dL_law_926 : decode cL_law 926 = .ok (.iconst 3, 1) := bL_law_910.2.2.2.2.2.2.2.2.2.2.2.2.2.2.1
theorem dL_law_927 : decode cL_law 927 = .ok (.iadd, 1) := bL_law_910.2.2.2.2.2.2.2.2.2.2.2.2.2.2.2
theorem bL_law_928 : (decode cL_law 928 = .ok (.iaload, 1)) ∧ (decode cL_law 929 = .ok (.aload_n 0, 1)) ∧ (decode cL_law 930 = .ok (.iload_n 3, 1)) ∧ (decode cL_law 931 = .ok (.iconst 4, 1)) ∧ (decode cL_law 932 = .ok (.iadd, 1)) ∧ (decode cL_law 933 = .ok (.iaload, 1)) ∧ (decode cL_law 934 = .ok (.invokevirtual 118, 3)) ∧ (decode cL_law 937 = .ok (.pop, 1)) ∧ (decode cL_law 938 = .ok (.aload_n 2, 1)) ∧ (decode cL_law 939 = .ok (.aload_n 0, 1)) ∧ (decode cL_law 940 = .ok (.iload_n 3, 1)) ∧ (decode cL_law 941 = .ok (.iconst 1, 1)) ∧ (decode cL_law 942 = .ok (.iadd, 1)) ∧ (decode cL_law 943 = .ok (.iaload, 1)) ∧ (decode cL_law 944 = .ok (.aload_n 0, 1)) ∧ (decode cL_law 945 = .ok (.iload_n 3, 1)) := by decide +kernel
theorem dL_law_928 : decode cL_law 928 = .ok (.iaload, 1) := bL_law_928.1
theorem dL_law_929 : decode cL_law 929 = .ok (.aload_n 0, 1) := bL_law_928.2.1
theorem dL_law_930 : decode cL_law 930 = .ok (.iload_n 3, 1) := bL_law_928.2.2.1
theorem dL_law_931 : decode cL_law 931 = .ok (.iconst 4, 1) := bL_law_928.2.2.2.1
theorem dL_law_932 : decode cL_law 932 = .ok (.iadd, 1) := bL_law_928.2.2.2.2.1
theorem dL_law_933 : decode cL_law 933 = .ok (.iaload, 1) := bL_law_928.2.2.2.2.2.1
theorem dL_law_934 : decode cL_law 934 = .ok (.invokevirtual 118, 3) := bL_law_928.2.2.2.2.2.2.1
theorem dL_law_937 : decode cL_law 937 = .ok (.pop, 1) := bL_law_928.2.2.2.2.2.2.2.1
theorem dL_law_938 : decode cL_law 938 = .ok (.aload_n 2, 1) := bL_law_928.2.2.2.2.2.2.2.2.1
theorem dL_law_939 : decode cL_law 939 = .ok (.aload_n 0, 1) := bL_law_928.2.2.2.2.2.2.2.2.2.1
theorem dL_law_940 : decode cL_law 940 = .ok (.iload_n 3, 1) := bL_law_928.2.2.2.2.2.2.2.2.2.2.1
theorem dL_law_941 : decode cL_law 941 = .ok (.iconst 1, 1) := bL_law_928.2.2.2.2.2.2.2.2.2.2.2.1
theorem dL_law_942 : decode cL_law 942 = .ok (.iadd, 1) := bL_law_928.2.2.2.2.2.2.2.2.2.2.2.2.1
theorem dL_law_943 : decode cL_law 943 = .ok (.iaload, 1) := bL_law_928.2.2.2.2.2.2.2.2.2.2.2.2.2.1
theorem dL_law_944 : decode cL_law 944 = .ok (.aload_n 0, 1) := bL_law_928.2.2.2.2.2.2.2.2.2.2.2.2.2.2.1
theorem dL_law_945 : decode cL_law 945 = .ok (.iload_n 3, 1) := bL_law_928.2.2.2.2.2.2.2.2.2.2.2.2.2.2.2
theorem bL_law_946 : (decode cL_law 946 = .ok (.iconst 2, 1)) ∧ (decode cL_law 947 = .ok (.iadd, 1)) ∧ (decode cL_law 948 = .ok (.iaload, 1)) ∧ (decode cL_law 949 = .ok (.aload_n 0, 1)) ∧ (decode cL_law 950 = .ok (.iload_n 3, 1)) ∧ (decode cL_law 951 = .ok (.iconst 3, 1)) ∧ (decode cL_law 952 = .ok (.iadd, 1)) ∧ (decode cL_law 953 = .ok (.iaload, 1)) ∧ (decode cL_law 954 = .ok (.aload_n 0, 1)) ∧ (decode cL_law 955 = .ok (.iload_n 3, 1)) ∧ (decode cL_law 956 = .ok (.iconst 4, 1)) ∧ (decode cL_law 957 = .ok (.iadd, 1)) ∧ (decode cL_law 958 = .ok (.iaload, 1)) ∧ (decode cL_law 959 = .ok (.invokevirtual 121, 3)) ∧ (decode cL_law 962 = .ok (.pop, 1)) ∧ (decode cL_law 963 = .ok (.goto 365, 3)) := by decide +kernel
theorem dL_law_946 : decode cL_law 946 = .ok (.iconst 2, 1) := bL_law_946.1
theorem dL_law_947 : decode cL_law 947 = .ok (.iadd, 1) := bL_law_946.2.1
theorem dL_law_948 : decode cL_law 948 = .ok (.iaload, 1) := bL_law_946.2.2.1
theorem dL_law_949 : decode cL_law 949 = .ok (.aload_n 0, 1) := bL_law_946.2.2.2.1
theorem dL_law_950 : decode cL_law 950 = .ok (.iload_n 3, 1) := bL_law_946.2.2.2.2.1
theorem dL_law_951 : decode cL_law 951 = .ok (.iconst 3, 1) := bL_law_946.2.2.2.2.2.1
theorem dL_law_952 : decode cL_law 952 = .ok (.iadd, 1) := bL_law_946.2.2.2.2.2.2.1
theorem dL_law_953 : decode cL_law 953 = .ok (.iaload, 1) := bL_law_946.2.2.2.2.2.2.2.1
theorem dL_law_954 : decode cL_law 954 = .ok (.aload_n 0, 1) := bL_law_946.2.2.2.2.2.2.2.2.1
theorem dL_law_955 : decode cL_law 955 = .ok (.iload_n 3, 1) := bL_law_946.2.2.2.2.2.2.2.2.2.1
theorem dL_law_956 : decode cL_law 956 = .ok (.iconst 4, 1) := bL_law_946.2.2.2.2.2.2.2.2.2.2.1
theorem dL_law_957 : decode cL_law 957 = .ok (.iadd, 1) := bL_law_946.2.2.2.2.2.2.2.2.2.2.2.1
theorem dL_law_958 : decode cL_law 958 = .ok (.iaload, 1) := bL_law_946.2.2.2.2.2.2.2.2.2.2.2.2.1
theorem dL_law_959 : decode cL_law 959 = .ok (.invokevirtual 121, 3) := bL_law_946.2.2.2.2.2.2.2.2.2.2.2.2.2.1
theorem dL_law_962 : decode cL_law 962 = .ok (.pop, 1) := bL_law_946.2.2.2.2.2.2.2.2.2.2.2.2.2.2.1
theorem dL_law_963 : decode cL_law 963 = .ok (.goto 365, 3) := bL_law_946.2.2.2.2.2.2.2.2.2.2.2.2.2.2.2
theorem bL_law_966 : (decode cL_law 966 = .ok (.aload_n 1, 1)) ∧ (decode cL_law 967 = .ok (.aload_n 0, 1)) ∧ (decode cL_law 968 = .ok (.iload_n 3, 1)) ∧ (decode cL_law 969 = .ok (.iconst 1, 1)) ∧ (decode cL_law 970 = .ok (.iadd, 1)) ∧ (decode cL_law 971 = .ok (.iaload, 1)) ∧ (decode cL_law 972 = .ok (.invokevirtual 122, 3)) ∧ (decode cL_law 975 = .ok (.pop, 1)) ∧ (decode cL_law 976 = .ok (.aload_n 2, 1)) ∧ (decode cL_law 977 = .ok (.aload_n 0, 1)) ∧ (decode cL_law 978 = .ok (.iload_n 3, 1)) ∧ (decode cL_law 979 = .ok (.iconst 1, 1)) ∧ (decode cL_law 980 = .ok (.iadd, 1)) ∧ (decode cL_law 981 = .ok (.iaload, 1)) ∧ (decode cL_law 982 = .ok (.invokevirtual 125, 3)) ∧ (decode cL_law 985 = .ok (.pop, 1)) := by decide +kernel
theorem dL_law_966 : decode cL_law 966 = .ok (.aload_n 1, 1) := bL_law_966.1
theorem dL_law_967 : decode cL_law 967 = .ok (.aload_n 0, 1) := bL_law_966.2.1
theorem dL_law_968 : decode cL_law 968 = .ok (.iload_n 3, 1) := bL_law_966.2.2.1
theorem dL_law_969 : decode cL_law 969 = .ok (.iconst 1, 1) := bL_law_966.2.2.2.1
theorem dL_law_970 : decode cL_law 970 = .ok (.iadd, 1) := bL_law_966.2.2.2.2.1
theorem dL_law_971 : decode cL_law 971 = .ok (.iaload, 1) := bL_law_966.2.2.2.2.2.1
theorem dL_law_972 : decode cL_law 972 = .ok (.invokevirtual 122, 3) := bL_law_966.2.2.2.2.2.2.1
theorem dL_law_975 : decode cL_law 975 = .ok (.pop, 1) := bL_law_966.2.2.2.2.2.2.2.1
theorem dL_law_976 : decode cL_law 976 = .ok (.aload_n 2, 1) := bL_law_966.2.2.2.2.2.2.2.2.1
theorem dL_law_977 : decode cL_law 977 = .ok (.aload_n 0, 1) := bL_law_966.2.2.2.2.2.2.2.2.2.1
theorem dL_law_978 : decode cL_law 978 = .ok (.iload_n 3, 1) := bL_law_966.2.2.2.2.2.2.2.2.2.2.1
theorem dL_law_979 : decode cL_law 979 = .ok (.iconst 1, 1) := bL_law_966.2.2.2.2.2.2.2.2.2.2.2.1
theorem dL_law_980 : decode cL_law 980 = .ok (.iadd, 1) := bL_law_966.2.2.2.2.2.2.2.2.2.2.2.2.1
theorem dL_law_981 : decode cL_law 981 = .ok (.iaload, 1) := bL_law_966.2.2.2.2.2.2.2.2.2.2.2.2.2.1
theorem dL_law_982 : decode cL_law 982 = .ok (.invokevirtual 125, 3) := bL_law_966.2.2.2.2.2.2.2.2.2.2.2.2.2.2.1
theorem dL_law_985 : decode cL_law 985 = .ok (.pop, 1) := bL_law_966.2.2.2.2.2.2.2.2.2.2.2.2.2.2.2
theorem bL_law_986 : (decode cL_law 986 = .ok (.goto 342, 3)) ∧ (decode cL_law 989 = .ok (.aload_n 1, 1)) ∧ (decode cL_law 990 = .ok (.aload_n 0, 1)) ∧ (decode cL_law 991 = .ok (.iload_n 3, 1)) ∧ (decode cL_law 992 = .ok (.iconst 1, 1)) ∧ (decode cL_law 993 = .ok (.iadd, 1)) ∧ (decode cL_law 994 = .ok (.iaload, 1)) ∧ (decode cL_law 995 = .ok (.invokevirtual 126, 3)) ∧ (decode cL_law 998 = .ok (.pop, 1)) ∧ (decode cL_law 999 = .ok (.aload_n 2, 1)) ∧ (decode cL_law 1000 = .ok (.aload_n 0, 1)) ∧ (decode cL_law 1001 = .ok (.iload_n 3, 1)) ∧ (decode cL_law 1002 = .ok (.iconst 1, 1)) ∧ (decode cL_law 1003 = .ok (.iadd, 1)) ∧ (decode cL_law 1004 = .ok (.iaload, 1)) ∧ (decode cL_law 1005 = .ok (.invokevirtual 129, 3)) := by decide +kernel
theorem dL_law_986 : decode cL_law 986 = .ok (.goto 342, 3) := bL_law_986.1
theorem dL_law_989 : decode cL_law 989 = .ok (.aload_n 1, 1) := bL_law_986.2.1
theorem dL_law_990 : decode cL_law 990 = .ok (.aload_n 0, 1) := bL_law_986.2.2.1
theorem dL_law_991 : decode cL_law 991 = .ok (.iload_n 3, 1) := bL_law_986.2.2.2.1
theorem dL_law_992 : decode cL_law 992 = .ok (.iconst 1, 1) := bL_law_986.2.2.2.2.1
theorem dL_law_993 : decode cL_law 993 = .ok (.iadd, 1) := bL_law_986.2.2.2.2.2.1
theorem dL_law_994 : decode cL_law 994 = .ok (.iaload, 1) := bL_law_986.2.2.2.2.2.2.1
theorem dL_law_995 : decode cL_law 995 = .ok (.invokevirtual 126, 3) := bL_law_986.2.2.2.2.2.2.2.1
theorem dL_law_998 : decode cL_law 998 = .ok (.pop, 1) := bL_law_986.2.2.2.2.2.2.2.2.1
theorem dL_law_999 : decode cL_law 999 = .ok (.aload_n 2, 1) := bL_law_986.2.2.2.2.2.2.2.2.2.1
theorem dL_law_1000 : decode cL_law 1000 = .ok (.aload_n 0, 1) := bL_law_986.2.2.2.2.2.2.2.2.2.2.1
theorem dL_law_1001 : decode cL_law 1001 = .ok (.iload_n 3, 1) := bL_law_986.2.2.2.2.2.2.2.2.2.2.2.1
theorem dL_law_1002 : decode cL_law 1002 = .ok (.iconst 1, 1) := bL_law_986.2.2.2.2.2.2.2.2.2.2.2.2.1
theorem dL_law_1003 : decode cL_law 1003 = .ok (.iadd, 1) := bL_law_986.2.2.2.2.2.2.2.2.2.2.2.2.2.1
theorem dL_law_1004 : decode cL_law 1004 = .ok (.iaload, 1) := bL_law_986.2.2.2.2.2.2.2.2.2.2.2.2.2.2.1
theorem dL_law_1005 : decode cL_law 1005 = .ok (.invokevirtual 129, 3) := bL_law_986.2.2.2.2.2.2.2.2.2.2.2.2.2.2.2
theorem bL_law_1008 : (decode cL_law 1008 = .ok (.pop, 1)) ∧ (decode cL_law 1009 = .ok (.goto 319, 3)) ∧ (decode cL_law 1012 = .ok (.aload_n 1, 1)) ∧ (decode cL_law 1013 = .ok (.aload_n 0, 1)) ∧ (decode cL_law 1014 = .ok (.iload_n 3, 1)) ∧ (decode cL_law 1015 = .ok (.iconst 1, 1)) ∧ (decode cL_law 1016 = .ok (.iadd, 1)) ∧ (decode cL_law 1017 = .ok (.iaload, 1)) ∧ (decode cL_law 1018 = .ok (.invokevirtual 130, 3)) ∧ (decode cL_law 1021 = .ok (.pop, 1)) ∧ (decode cL_law 1022 = .ok (.aload_n 2, 1)) ∧ (decode cL_law 1023 = .ok (.aload_n 0, 1)) ∧ (decode cL_law 1024 = .ok (.iload_n 3, 1)) ∧ (decode cL_law 1025 = .ok (.iconst 1, 1)) ∧ (decode cL_law 1026 = .ok (.iadd, 1)) ∧ (decode cL_law 1027 = .ok (.iaload, 1)) := by decide +kernel
theorem dL_law_1008 : decode cL_law 1008 = .ok (.pop, 1) := bL_law_1008.1
theorem dL_law_1009 : decode cL_law 1009 = .ok (.goto 319, 3) := bL_law_1008.2.1
theorem dL_law_1012 : decode cL_law 1012 = .ok (.aload_n 1, 1) := bL_law_1008.2.2.1
theorem dL_law_1013 : decode cL_law 1013 = .ok (.aload_n 0, 1) := bL_law_1008.2.2.2.1
theorem dL_law_1014 : decode cL_law 1014 = .ok (.iload_n 3, 1) := bL_law_1008.2.2.2.2.1
theorem dL_law_1015 : decode cL_law 1015 = .ok (.iconst 1, 1) := bL_law_1008.2.2.2.2.2.1
theorem dL_law_1016 : decode cL_law 1016 = .ok (.iadd, 1) := bL_law_1008.2.2.2.2.2.2.1
theorem dL_law_1017 : decode cL_law 1017 = .ok (.iaload, 1) := bL_law_1008.2.2.2.2.2.2.2.1
theorem dL_law_1018 : decode cL_law 1018 = .ok (.invokevirtual 130, 3) := bL_law_1008.2.2.2.2.2.2.2.2.1
theorem dL_law_1021 : decode cL_law 1021 = .ok (.pop, 1) := bL_law_1008.2.2.2.2.2.2.2.2.2.1
theorem dL_law_1022 : decode cL_law 1022 = .ok (.aload_n 2, 1) := bL_law_1008.2.2.2.2.2.2.2.2.2.2.1
theorem dL_law_1023 : decode cL_law 1023 = .ok (.aload_n 0, 1) := bL_law_1008.2.2.2.2.2.2.2.2.2.2.2.1
theorem dL_law_1024 : decode cL_law 1024 = .ok (.iload_n 3, 1) := bL_law_1008.2.2.2.2.2.2.2.2.2.2.2.2.1
theorem dL_law_1025 : decode cL_law 1025 = .ok (.iconst 1, 1) := bL_law_1008.2.2.2.2.2.2.2.2.2.2.2.2.2.1
theorem dL_law_1026 : decode cL_law 1026 = .ok (.iadd, 1) := bL_law_1008.2.2.2.2.2.2.2.2.2.2.2.2.2.2.1
theorem dL_law_1027 : decode cL_law 1027 = .ok (.iaload, 1) := bL_law_1008.2.2.2.2.2.2.2.2.2.2.2.2.2.2.2
theorem bL_law_1028 : (decode cL_law 1028 = .ok (.invokevirtual 133, 3)) ∧ (decode cL_law 1031 = .ok (.pop, 1)) ∧ (decode cL_law 1032 = .ok (.goto 296, 3)) ∧ (decode cL_law 1035 = .ok (.aload_n 1, 1)) ∧ (decode cL_law 1036 = .ok (.aload_n 0, 1)) ∧ (decode cL_law 1037 = .ok (.iload_n 3, 1)) ∧ (decode cL_law 1038 = .ok (.iconst 1, 1)) ∧ (decode cL_law 1039 = .ok (.iadd, 1)) ∧ (decode cL_law 1040 = .ok (.iaload, 1)) ∧ (decode cL_law 1041 = .ok (.invokevirtual 134, 3)) ∧ (decode cL_law 1044 = .ok (.pop, 1)) ∧ (decode cL_law 1045 = .ok (.aload_n 2, 1)) ∧ (decode cL_law 1046 = .ok (.aload_n 0, 1)) ∧ (decode cL_law 1047 = .ok (.iload_n 3, 1)) ∧ (decode cL_law 1048 = .ok (.iconst 1, 1)) ∧ (decode cL_law 1049 = .ok (.iadd, 1)) := by decide +kernel
theorem dL_law_1028 : decode cL_law 1028 = .ok (.invokevirtual 133, 3) := bL_law_1028.1
theorem dL_law_1031 : decode cL_law 1031 = .ok (.pop, 1) := bL_law_1028.2.1
theorem dL_law_1032 : decode cL_law 1032 = .ok (.goto 296, 3) := bL_law_1028.2.2.1
theorem dL_law_1035 : decode cL_law 1035 = .ok (.aload_n 1, 1) := bL_law_1028.2.2.2.1
theorem dL_law_1036 : decode cL_law 1036 = .ok (.aload_n 0, 1) := bL_law_1028.2.2.2.2.1
theorem dL_law_1037 : decode cL_law 1037 = .ok (.iload_n 3, 1) := bL_law_1028.2.2.2.2.2.1
theorem dL_law_1038 : decode cL_law 1038 = .ok (.iconst 1, 1) := bL_law_1028.2.2.2.2.2.2.1
theorem dL_law_1039 : decode cL_law 1039 = .ok (.iadd, 1) := bL_law_1028.2.2.2.2.2.2.2.1
theorem dL_law_1040 : decode cL_law 1040 = .ok (.iaload, 1) := bL_law_1028.2.2.2.2.2.2.2.2.1
theorem dL_law_1041 : decode cL_law 1041 = .ok (.invokevirtual 134, 3) := bL_law_1028.2.2.2.2.2.2.2.2.2.1
theorem dL_law_1044 : decode cL_law 1044 = .ok (.pop, 1) := bL_law_1028.2.2.2.2.2.2.2.2.2.2.1
theorem dL_law_1045 : decode cL_law 1045 = .ok (.aload_n 2, 1) := bL_law_1028.2.2.2.2.2.2.2.2.2.2.2.1
theorem dL_law_1046 : decode cL_law 1046 = .ok (.aload_n 0, 1) := bL_law_1028.2.2.2.2.2.2.2.2.2.2.2.2.1
theorem dL_law_1047 : decode cL_law 1047 = .ok (.iload_n 3, 1) := bL_law_1028.2.2.2.2.2.2.2.2.2.2.2.2.2.1
theorem dL_law_1048 : decode cL_law 1048 = .ok (.iconst 1, 1) := bL_law_1028.2.2.2.2.2.2.2.2.2.2.2.2.2.2.1
theorem dL_law_1049 : decode cL_law 1049 = .ok (.iadd, 1) := bL_law_1028.2.2.2.2.2.2.2.2.2.2.2.2.2.2.2
theorem bL_law_1050 : (decode cL_law 1050 = .ok (.iaload, 1)) ∧ (decode cL_law 1051 = .ok (.invokevirtual 137, 3)) ∧ (decode cL_law 1054 = .ok (.pop, 1)) ∧ (decode cL_law 1055 = .ok (.goto 273, 3)) ∧ (decode cL_law 1058 = .ok (.aload_n 1, 1)) ∧ (decode cL_law 1059 = .ok (.aload_n 0, 1)) ∧ (decode cL_law 1060 = .ok (.iload_n 3, 1)) ∧ (decode cL_law 1061 = .ok (.iconst 1, 1)) ∧ (decode cL_law 1062 = .ok (.iadd, 1)) ∧ (decode cL_law 1063 = .ok (.iaload, 1)) ∧ (decode cL_law 1064 = .ok (.invokevirtual 138, 3)) ∧ (decode cL_law 1067 = .ok (.pop, 1)) ∧ (decode cL_law 1068 = .ok (.aload_n 2, 1)) ∧ (decode cL_law 1069 = .ok (.aload_n 0, 1)) ∧ (decode cL_law 1070 = .ok (.iload_n 3, 1)) ∧ (decode cL_law 1071 = .ok (.iconst 1, 1)) := by decide +kernel
theorem dL_law_1050 : decode cL_law 1050 = .ok (.iaload, 1) := bL_law_1050.1
theorem dL_law_1051 : decode cL_law 1051 = .ok (.invokevirtual 137, 3) := bL_law_1050.2.1
theorem dL_law_1054 : decode cL_law 1054 = .ok (.pop, 1) := bL_law_1050.2.2.1
theorem dL_law_1055 : decode cL_law 1055 = .ok (.goto 273, 3) := bL_law_1050.2.2.2.1
theorem dL_law_1058 : decode cL_law 1058 = .ok (.aload_n 1, 1) := bL_law_1050.2.2.2.2.1
theorem dL_law_1059 : decode cL_law 1059 = .ok (.aload_n 0, 1) := bL_law_1050.2.2.2.2.2.1
theorem dL_law_1060 : decode cL_law 1060 = .ok (.iload_n 3, 1) := bL_law_1050.2.2.2.2.2.2.1
theorem dL_law_1061 : decode cL_law 1061 = .ok (.iconst 1, 1) := bL_law_1050.2.2.2.2.2.2.2.1
theorem dL_law_1062 : decode cL_law 1062 = .ok (.iadd, 1) := bL_law_1050.2.2.2.2.2.2.2.2.1
theorem dL_law_1063 : decode cL_law 1063 = .ok (.iaload, 1) := bL_law_1050.2.2.2.2.2.2.2.2.2.1
theorem dL_law_1064 : decode cL_law 1064 = .ok (.invokevirtual 138, 3) := bL_law_1050.2.2.2.2.2.2.2.2.2.2.1
theorem dL_law_1067 : decode cL_law 1067 = .ok (.pop, 1) := bL_law_1050.2.2.2.2.2.2.2.2.2.2.2.1
theorem dL_law_1068 : decode cL_law 1068 = .ok (.aload_n 2, 1) := bL_law_1050.2.2.2.2.2.2.2.2.2.2.2.2.1
theorem dL_law_1069 : decode cL_law 1069 = .ok (.aload_n 0, 1) := bL_law_1050.2.2.2.2.2.2.2.2.2.2.2.2.2.1
theorem dL_law_1070 : decode cL_law 1070 = .ok (.iload_n 3, 1) := bL_law_1050.2.2.2.2.2.2.2.2.2.2.2.2.2.2.1
theorem dL_law_1071 : decode cL_law 1071 = .ok (.iconst 1, 1) := bL_law_1050.2.2.2.2.2.2.2.2.2.2.2.2.2.2.2
theorem bL_law_1072 : (decode cL_law 1072 = .ok (.iadd, 1)) ∧ (decode cL_law 1073 = .ok (.iaload, 1)) ∧ (decode cL_law 1074 = .ok (.invokevirtual 141, 3)) ∧ (decode cL_law 1077 = .ok (.pop, 1)) ∧ (decode cL_law 1078 = .ok (.goto 250, 3)) ∧ (decode cL_law 1081 = .ok (.aload_n 1, 1)) ∧ (decode cL_law 1082 = .ok (.aload_n 0, 1)) ∧ (decode cL_law 1083 = .ok (.iload_n 3, 1)) ∧ (decode cL_law 1084 = .ok (.iconst 1, 1)) ∧ (decode cL_law 1085 = .ok (.iadd, 1)) ∧ (decode cL_law 1086 = .ok (.iaload, 1)) ∧ (decode cL_law 1087 = .ok (.aload_n 0, 1)) ∧ (decode cL_law 1088 = .ok (.iload_n 3, 1)) ∧ (decode cL_law 1089 = .ok (.iconst 2, 1)) ∧ (decode cL_law 1090 = .ok (.iadd, 1)) ∧ (decode cL_law 1091 = .ok (.iaload, 1)) := by decide +kernel
theorem dL_law_1072 : decode cL_law 1072 = .ok (.iadd, 1) := bL_law_1072.1
theorem dL_law_1073 : decode cL_law 1073 = .ok (.iaload, 1) := bL_law_1072.2.1
theorem dL_law_1074 : decode cL_law 1074 = .ok (.invokevirtual 141, 3) := bL_law_1072.2.2.1
theorem dL_law_1077 : decode cL_law 1077 = .ok (.pop, 1) := bL_law_1072.2.2.2.1
theorem dL_law_1078 : decode cL_law 1078 = .ok (.goto 250, 3) := bL_law_1072.2.2.2.2.1
theorem dL_law_1081 : decode cL_law 1081 = .ok (.aload_n 1, 1) := bL_law_1072.2.2.2.2.2.1
theorem dL_law_1082 : decode cL_law 1082 = .ok (.aload_n 0, 1) := bL_law_1072.2.2.2.2.2.2.1
theorem dL_law_1083 : decode cL_law 1083 = .ok (.iload_n 3, 1) := bL_law_1072.2.2.2.2.2.2.2.1
theorem dL_law_1084 : decode cL_law 1084 = .ok (.iconst 1, 1) := bL_law_1072.2.2.2.2.2.2.2.2.1
theorem dL_law_1085 : decode cL_law 1085 = .ok (.iadd, 1) := bL_law_1072.2.2.2.2.2.2.2.2.2.1
theorem dL_law_1086 : decode cL_law 1086 = .ok (.iaload, 1) := bL_law_1072.2.2.2.2.2.2.2.2.2.2.1
theorem dL_law_1087 : decode cL_law 1087 = .ok (.aload_n 0, 1) := bL_law_1072.2.2.2.2.2.2.2.2.2.2.2.1
theorem dL_law_1088 : decode cL_law 1088 = .ok (.iload_n 3, 1) := bL_law_1072.2.2.2.2.2.2.2.2.2.2.2.2.1
theorem dL_law_1089 : decode cL_law 1089 = .ok (.iconst 2, 1) := bL_law_1072.2.2.2.2.2.2.2.2.2.2.2.2.2.1
theorem dL_law_1090 : decode cL_law 1090 = .ok (.iadd, 1) := bL_law_1072.2.2.2.2.2.2.2.2.2.2.2.2.2.2.1
theorem dL_law_1091 : decode cL_law 1091 = .ok (.iaload, 1) := bL_law_1072.2.2.2.2.2.2.2.2.2.2.2.2.2.2.2
theorem bL_law_1092 : (decode cL_law 1092 = .ok (.aload_n 0, 1)) ∧ (decode cL_law 1093 = .ok (.iload_n 3, 1)) ∧ (decode cL_law 1094 = .ok (.iconst 3, 1)) ∧ (decode cL_law 1095 = .ok (.iadd, 1)) ∧ (decode cL_law 1096 = .ok (.iaload, 1)) ∧ (decode cL_law 1097 = .ok (.invokevirtual 142, 3)) ∧ (decode cL_law 1100 = .ok (.pop, 1)) ∧ (decode cL_law 1101 = .ok (.aload_n 2, 1)) ∧ (decode cL_law 1102 = .ok (.aload_n 0, 1)) ∧ (decode cL_law 1103 = .ok (.iload_n 3, 1)) ∧ (decode cL_law 1104 = .ok (.iconst 1, 1)) ∧ (decode cL_law 1105 = .ok (.iadd, 1)) ∧ (decode cL_law 1106 = .ok (.iaload, 1)) ∧ (decode cL_law 1107 = .ok (.aload_n 0, 1)) ∧ (decode cL_law 1108 = .ok (.iload_n 3, 1)) ∧ (decode cL_law 1109 = .ok (.iconst 2, 1)) := by decide +kernel
theorem dL_law_1092 : decode cL_law 1092 = .ok (.aload_n 0, 1) := bL_law_1092.1
theorem dL_law_1093 : decode cL_law 1093 = .ok (.iload_n 3, 1) := bL_law_1092.2.1
theorem dL_law_1094 : decode cL_law 1094 = .ok (.iconst 3, 1) := bL_law_1092.2.2.1
theorem dL_law_1095 : decode cL_law 1095 = .ok (.iadd, 1) := bL_law_1092.2.2.2.1
theorem dL_law_1096 : decode cL_law 1096 = .ok (.iaload, 1) := bL_law_1092.2.2.2.2.1
theorem dL_law_1097 : decode cL_law 1097 = .ok (.invokevirtual 142, 3) := bL_law_1092.2.2.2.2.2.1
theorem dL_law_1100 : decode cL_law 1100 = .ok (.pop, 1) := bL_law_1092.2.2.2.2.2.2.1
theorem dL_law_1101 : decode cL_law 1101 = .ok (.aload_n 2, 1) := bL_law_1092.2.2.2.2.2.2.2.1
theorem dL_law_1102 : decode cL_law 1102 = .ok (.aload_n 0, 1) := bL_law_1092.2.2.2.2.2.2.2.2.1
theorem dL_law_1103 : decode cL_law 1103 = .ok (.iload_n 3, 1) := bL_law_1092.2.2.2.2.2.2.2.2.2.1
theorem dL_law_1104 : decode cL_law 1104 = .ok (.iconst 1, 1) := bL_law_1092.2.2.2.2.2.2.2.2.2.2.1
theorem dL_law_1105 : decode cL_law 1105 = .ok (.iadd, 1) := bL_law_1092.2.2.2.2.2.2.2.2.2.2.2.1
theorem dL_law_1106 : decode cL_law 1106 = .ok (.iaload, 1) := bL_law_1092.2.2.2.2.2.2.2.2.2.2.2.2.1
theorem dL_law_1107 : decode cL_law 1107 = .ok (.aload_n 0, 1) := bL_law_1092.2.2.2.2.2.2.2.2.2.2.2.2.2.1
theorem dL_law_1108 : decode cL_law 1108 = .ok (.iload_n 3, 1) := bL_law_1092.2.2.2.2.2.2.2.2.2.2.2.2.2.2.1
theorem dL_law_1109 : decode cL_law 1109 = .ok (.iconst 2, 1) := bL_law_1092.2.2.2.2.2.2.2.2.2.2.2.2.2.2.2
theorem bL_law_1110 : (decode cL_law 1110 = .ok (.iadd, 1)) ∧ (decode cL_law 1111 = .ok (.iaload, 1)) ∧ (decode cL_law 1112 = .ok (.aload_n 0, 1)) ∧ (decode cL_law 1113 = .ok (.iload_n 3, 1)) ∧ (decode cL_law 1114 = .ok (.iconst 3, 1)) ∧ (decode cL_law 1115 = .ok (.iadd, 1)) ∧ (decode cL_law 1116 = .ok (.iaload, 1)) ∧ (decode cL_law 1117 = .ok (.invokevirtual 145, 3)) ∧ (decode cL_law 1120 = .ok (.pop, 1)) ∧ (decode cL_law 1121 = .ok (.goto 207, 3)) ∧ (decode cL_law 1124 = .ok (.aload_n 1, 1)) ∧ (decode cL_law 1125 = .ok (.aload_n 0, 1)) ∧ (decode cL_law 1126 = .ok (.iload_n 3, 1)) ∧ (decode cL_law 1127 = .ok (.iconst 1, 1)) ∧ (decode cL_law 1128 = .ok (.iadd, 1)) ∧ (decode cL_law 1129 = .ok (.iaload, 1)) := by decide +kernel
theorem dL_law_1110 : decode cL_law 1110 = .ok (.iadd, 1) := bL_law_1110.1
theorem dL_law_1111 : decode cL_law 1111 = .ok (.iaload, 1) := bL_law_1110.2.1
theorem dL_law_1112 : decode cL_law 1112 = .ok (.aload_n 0, 1) := bL_law_1110.2.2.1
theorem dL_law_1113 : decode cL_law 1113 = .ok (.iload_n 3, 1) := bL_law_1110.2.2.2.1
theorem dL_law_1114 : decode cL_law 1114 = .ok (.iconst 3, 1) := bL_law_1110.2.2.2.2.1
theorem dL_law_1115 : decode cL_law 1115 = .ok (.iadd, 1) := bL_law_1110.2.2.2.2.2.1
theorem dL_law_1116 : decode cL_law 1116 = .ok (.iaload, 1) := bL_law_1110.2.2.2.2.2.2.1
theorem dL_law_1117 : decode cL_law 1117 = .ok (.invokevirtual 145, 3) := bL_law_1110.2.2.2.2.2.2.2.1
theorem dL_law_1120 : decode cL_law 1120 = .ok (.pop, 1) := bL_law_1110.2.2.2.2.2.2.2.2.1
theorem dL_law_1121 : decode cL_law 1121 = .ok (.goto 207, 3) := bL_law_1110.2.2.2.2.2.2.2.2.2.1
theorem dL_law_1124 : decode cL_law 1124 = .ok (.aload_n 1, 1) := bL_law_1110.2.2.2.2.2.2.2.2.2.2.1
theorem dL_law_1125 : decode cL_law 1125 = .ok (.aload_n 0, 1) := bL_law_1110.2.2.2.2.2.2.2.2.2.2.2.1
theorem dL_law_1126 : decode cL_law 1126 = .ok (.iload_n 3, 1) := bL_law_1110.2.2.2.2.2.2.2.2.2.2.2.2.1
theorem dL_law_1127 : decode cL_law 1127 = .ok (.iconst 1, 1) := bL_law_1110.2.2.2.2.2.2.2.2.2.2.2.2.2.1
theorem dL_law_1128 : decode cL_law 1128 = .ok (.iadd, 1) := bL_law_1110.2.2.2.2.2.2.2.2.2.2.2.2.2.2.1
theorem dL_law_1129 : decode cL_law 1129 = .ok (.iaload, 1) := bL_law_1110.2.2.2.2.2.2.2.2.2.2.2.2.2.2.2
theorem bL_law_1130 : (decode cL_law 1130 = .ok (.aload_n 0, 1)) ∧ (decode cL_law 1131 = .ok (.iload_n 3, 1)) ∧ (decode cL_law 1132 = .ok (.iconst 2, 1)) ∧ (decode cL_law 1133 = .ok (.iadd, 1)) ∧ (decode cL_law 1134 = .ok (.iaload, 1)) ∧ (decode cL_law 1135 = .ok (.aload_n 0, 1)) ∧ (decode cL_law 1136 = .ok (.iload_n 3, 1)) ∧ (decode cL_law 1137 = .ok (.iconst 3, 1)) ∧ (decode cL_law 1138 = .ok (.iadd, 1)) ∧ (decode cL_law 1139 = .ok (.iaload, 1)) ∧ (decode cL_law 1140 = .ok (.invokevirtual 146, 3)) ∧ (decode cL_law 1143 = .ok (.pop, 1)) ∧ (decode cL_law 1144 = .ok (.aload_n 2, 1)) ∧ (decode cL_law 1145 = .ok (.aload_n 0, 1)) ∧ (decode cL_law 1146 = .ok (.iload_n 3, 1)) ∧ (decode cL_law 1147 = .ok (.iconst 1, 1)) := by decide +kernel
theorem dL_law_1130 : decode cL_law 1130 = .ok (.aload_n 0, 1) := bL_law_1130.1
theorem dL_law_1131 : decode cL_law 1131 = .ok (.iload_n 3, 1) := bL_law_1130.2.1
theorem dL_law_1132 : decode cL_law 1132 = .ok (.iconst 2, 1) := bL_law_1130.2.2.1
theorem dL_law_1133 : decode cL_law 1133 = .ok (.iadd, 1) := bL_law_1130.2.2.2.1
theorem dL_law_1134 : decode cL_law 1134 = .ok (.iaload, 1) := bL_law_1130.2.2.2.2.1
theorem dL_law_1135 : decode cL_law 1135 = .ok (.aload_n 0, 1) := bL_law_1130.2.2.2.2.2.1
theorem dL_law_1136 : decode cL_law 1136 = .ok (.iload_n 3, 1) := bL_law_1130.2.2.2.2.2.2.1
theorem dL_law_1137 : decode cL_law 1137 = .ok (.iconst 3, 1) := bL_law_1130.2.2.2.2.2.2.2.1
theorem dL_law_1138 : decode cL_law 1138 = .ok (.iadd, 1) := bL_law_1130.2.2.2.2.2.2.2.2.1
theorem dL_law_1139 : decode cL_law 1139 = .ok (.iaload, 1) := bL_law_1130.2.2.2.2.2.2.2.2.2.1
theorem dL_law_1140 : decode cL_law 1140 = .ok (.invokevirtual 146, 3) := bL_law_1130.2.2.2.2.2.2.2.2.2.2.1
theorem dL_law_1143 : decode cL_law 1143 = .ok (.pop, 1) := bL_law_1130.2.2.2.2.2.2.2.2.2.2.2.1
theorem dL_law_1144 : decode cL_law 1144 = .ok (.aload_n 2, 1) := bL_law_1130.2.2.2.2.2.2.2.2.2.2.2.2.1
theorem dL_law_1145 : decode cL_law 1145 = .ok (.aload_n 0, 1) := bL_law_1130.2.2.2.2.2.2.2.2.2.2.2.2.2.1
theorem dL_law_1146 : decode cL_law 1146 = .ok (.iload_n 3, 1) := bL_law_1130.2.2.2.2.2.2.2.2.2.2.2.2.2.2.1
theorem dL_law_1147 : decode cL_law 1147 = .ok (.iconst 1, 1) := bL_law_1130.2.2.2.2.2.2.2.2.2.2.2.2.2.2.2
theorem bL_law_1148 : (decode cL_law 1148 = .ok (.iadd, 1)) ∧ (decode cL_law 1149 = .ok (.iaload, 1)) ∧ (decode cL_law 1150 = .ok (.aload_n 0, 1)) ∧ (decode cL_law 1151 = .ok (.iload_n 3, 1)) ∧ (decode cL_law 1152 = .ok (.iconst 2, 1)) ∧ (decode cL_law 1153 = .ok (.iadd, 1)) ∧ (decode cL_law 1154 = .ok (.iaload, 1)) ∧ (decode cL_law 1155 = .ok (.aload_n 0, 1)) ∧ (decode cL_law 1156 = .ok (.iload_n 3, 1)) ∧ (decode cL_law 1157 = .ok (.iconst 3, 1)) ∧ (decode cL_law 1158 = .ok (.iadd, 1)) ∧ (decode cL_law 1159 = .ok (.iaload, 1)) ∧ (decode cL_law 1160 = .ok (.invokevirtual 149, 3)) ∧ (decode cL_law 1163 = .ok (.pop, 1)) ∧ (decode cL_law 1164 = .ok (.goto 164, 3)) ∧ (decode cL_law 1167 = .ok (.aload_n 1, 1)) := by decide +kernel
theorem dL_law_1148 : decode cL_law 1148 = .ok (.iadd, 1) := bL_law_1148.1
theorem dL_law_1149 : decode cL_law 1149 = .ok (.iaload, 1) := bL_law_1148.2.1
theorem dL_law_1150 : decode cL_law 1150 = .ok (.aload_n 0, 1) := bL_law_1148.2.2.1
theorem dL_law_1151 : decode cL_law 1151 = .ok (.iload_n 3, 1) := bL_law_1148.2.2.2.1
theorem dL_law_1152 : decode cL_law 1152 = .ok (.iconst 2, 1) := bL_law_1148.2.2.2.2.1
theorem dL_law_1153 : decode cL_law 1153 = .ok (.iadd, 1) := bL_law_1148.2.2.2.2.2.1
theorem dL_law_1154 : decode cL_law 1154 = .ok (.iaload, 1) := bL_law_1148.2.2.2.2.2.2.1
theorem dL_law_1155 : decode cL_law 1155 = .ok (.aload_n 0, 1) := bL_law_1148.2.2.2.2.2.2.2.1
theorem dL_law_1156 : decode cL_law 1156 = .ok (.iload_n 3, 1) := bL_law_1148.2.2.2.2.2.2.2.2.1
theorem dL_law_1157 : decode cL_law 1157 = .ok (.iconst 3, 1) := bL_law_1148.2.2.2.2.2.2.2.2.2.1
theorem dL_law_1158 : decode cL_law 1158 = .ok (.iadd, 1) := bL_law_1148.2.2.2.2.2.2.2.2.2.2.1
theorem dL_law_1159 : decode cL_law 1159 = .ok (.iaload, 1) := bL_law_1148.2.2.2.2.2.2.2.2.2.2.2.1
theorem dL_law_1160 : decode cL_law 1160 = .ok (.invokevirtual 149, 3) := bL_law_1148.2.2.2.2.2.2.2.2.2.2.2.2.1
theorem dL_law_1163 : decode cL_law 1163 = .ok (.pop, 1) := bL_law_1148.2.2.2.2.2.2.2.2.2.2.2.2.2.1
theorem dL_law_1164 : decode cL_law 1164 = .ok (.goto 164, 3) := bL_law_1148.2.2.2.2.2.2.2.2.2.2.2.2.2.2.1
theorem dL_law_1167 : decode cL_law 1167 = .ok (.aload_n 1, 1) := bL_law_1148.2.2.2.2.2.2.2.2.2.2.2.2.2.2.2
theorem bL_law_1168 : (decode cL_law 1168 = .ok (.aload_n 0, 1)) ∧ (decode cL_law 1169 = .ok (.iload_n 3, 1)) ∧ (decode cL_law 1170 = .ok (.iconst 1, 1)) ∧ (decode cL_law 1171 = .ok (.iadd, 1)) ∧ (decode cL_law 1172 = .ok (.iaload, 1)) ∧ (decode cL_law 1173 = .ok (.aload_n 0, 1)) ∧ (decode cL_law 1174 = .ok (.iload_n 3, 1)) ∧ (decode cL_law 1175 = .ok (.iconst 2, 1)) ∧ (decode cL_law 1176 = .ok (.iadd, 1)) ∧ (decode cL_law 1177 = .ok (.iaload, 1)) ∧ (decode cL_law 1178 = .ok (.invokevirtual 150, 3)) ∧ (decode cL_law 1181 = .ok (.pop, 1)) ∧ (decode cL_law 1182 = .ok (.aload_n 2, 1)) ∧ (decode cL_law 1183 = .ok (.aload_n 0, 1)) ∧ (decode cL_law 1184 = .ok (.iload_n 3, 1)) ∧ (decode cL_law 1185 = .ok (.iconst 1, 1)) := by decide +kernel
theorem dL_law_1168 : decode cL_law 1168 = .ok (.aload_n 0, 1) := bL_law_1168.1
theorem dL_law_1169 : decode cL_law 1169 = .ok (.iload_n 3, 1) := bL_law_1168.2.1
theorem dL_law_1170 : decode cL_law 1170 = .ok (.iconst 1, 1) := bL_law_1168.2.2.1
theorem dL_law_1171 : decode cL_law 1171 = .ok (.iadd, 1) := bL_law_1168.2.2.2.1
theorem dL_law_1172 : decode cL_law 1172 = .ok (.iaload, 1) := bL_law_1168.2.2.2.2.1
theorem dL_law_1173 : decode cL_law 1173 = .ok (.aload_n 0, 1) := bL_law_1168.2.2.2.2.2.1
theorem dL_law_1174 : decode cL_law 1174 = .ok (.iload_n 3, 1) := bL_law_1168.2.2.2.2.2.2.1
theorem dL_law_1175 : decode cL_law 1175 = .ok (.iconst 2, 1) := bL_law_1168.2.2.2.2.2.2.2.1
theorem dL_law_1176 : decode cL_law 1176 = .ok (.iadd, 1) := bL_law_1168.2.2.2.2.2.2.2.2.1
theorem dL_law_1177 : decode cL_law 1177 = .ok (.iaload, 1) := bL_law_1168.2.2.2.2.2.2.2.2.2.1
theorem dL_law_1178 : decode cL_law 1178 = .ok (.invokevirtual 150, 3) := bL_law_1168.2.2.2.2.2.2.2.2.2.2.1
theorem dL_law_1181 : decode cL_law 1181 = .ok (.pop, 1) := bL_law_1168.2.2.2.2.2.2.2.2.2.2.2.1
theorem dL_law_1182 : decode cL_law 1182 = .ok (.aload_n 2, 1) := bL_law_1168.2.2.2.2.2.2.2.2.2.2.2.2.1
theorem dL_law_1183 : decode cL_law 1183 = .ok (.aload_n 0, 1) := bL_law_1168.2.2.2.2.2.2.2.2.2.2.2.2.2.1
theorem dL_law_1184 : decode cL_law 1184 = .ok (.iload_n 3, 1) := bL_law_1168.2.2.2.2.2.2.2.2.2.2.2.2.2.2.1
theorem dL_law_1185 : decode cL_law 1185 = .ok (.iconst 1, 1) := bL_law_1168.2.2.2.2.2.2.2.2.2.2.2.2.2.2.2
theorem bL_law_1186 : (decode cL_law 1186 = .ok (.iadd, 1)) ∧ (decode cL_law 1187 = .ok (.iaload, 1)) ∧ (decode cL_law 1188 = .ok (.aload_n 0, 1)) ∧ (decode cL_law 1189 = .ok (.iload_n 3, 1)) ∧ (decode cL_law 1190 = .ok (.iconst 2, 1)) ∧ (decode cL_law 1191 = .ok (.iadd, 1)) ∧ (decode cL_law 1192 = .ok (.iaload, 1)) ∧ (decode cL_law 1193 = .ok (.invokevirtual 153, 3)) ∧ (decode cL_law 1196 = .ok (.pop, 1)) ∧ (decode cL_law 1197 = .ok (.goto 131, 3)) ∧ (decode cL_law 1200 = .ok (.aload_n 1, 1)) ∧ (decode cL_law 1201 = .ok (.aload_n 0, 1)) ∧ (decode cL_law 1202 = .ok (.iload_n 3, 1)) ∧ (decode cL_law 1203 = .ok (.iconst 1, 1)) ∧ (decode cL_law 1204 = .ok (.iadd, 1)) ∧ (decode cL_law 1205 = .ok (.iaload, 1)) := by decide +kernel
theorem dL_law_1186 : decode cL_law 1186 = .ok (.iadd, 1) := bL_law_1186.1
theorem dL_law_1187 : decode cL_law 1187 = .ok (.iaload, 1) := bL_law_1186.2.1
theorem dL_law_1188 : decode cL_law 1188 = .ok (.aload_n 0, 1) := bL_law_1186.2.2.1
theorem dL_law_1189 : decode cL_law 1189 = .ok (.iload_n 3, 1) := bL_law_1186.2.2.2.1
theorem dL_law_1190 : decode cL_law 1190 = .ok (.iconst 2, 1) := bL_law_1186.2.2.2.2.1
theorem dL_law_1191 : decode cL_law 1191 = .ok (.iadd, 1) := bL_law_1186.2.2.2.2.2.1
theorem dL_law_1192 : decode cL_law 1192 = .ok (.iaload, 1) := bL_law_1186.2.2.2.2.2.2.1
theorem dL_law_1193 : decode cL_law 1193 = .ok (.invokevirtual 153, 3) := bL_law_1186.2.2.2.2.2.2.2.1
theorem dL_law_1196 : decode cL_law 1196 = .ok (.pop, 1) := bL_law_1186.2.2.2.2.2.2.2.2.1
theorem dL_law_1197 : decode cL_law 1197 = .ok (.goto 131, 3) := bL_law_1186.2.2.2.2.2.2.2.2.2.1
theorem dL_law_1200 : decode cL_law 1200 = .ok (.aload_n 1, 1) := bL_law_1186.2.2.2.2.2.2.2.2.2.2.1
theorem dL_law_1201 : decode cL_law 1201 = .ok (.aload_n 0, 1) := bL_law_1186.2.2.2.2.2.2.2.2.2.2.2.1
theorem dL_law_1202 : decode cL_law 1202 = .ok (.iload_n 3, 1) := bL_law_1186.2.2.2.2.2.2.2.2.2.2.2.2.1
theorem dL_law_1203 : decode cL_law 1203 = .ok (.iconst 1, 1) := bL_law_1186.2.2.2.2.2.2.2.2.2.2.2.2.2.1
theorem dL_law_1204 : decode cL_law 1204 = .ok (.iadd, 1) := bL_law_1186.2.2.2.2.2.2.2.2.2.2.2.2.2.2.1
theorem dL_law_1205 : decode cL_law 1205 = .ok (.iaload, 1) := bL_law_1186.2.2.2.2.2.2.2.2.2.2.2.2.2.2.2
theorem bL_law_1206 : (decode cL_law 1206 = .ok (.invokevirtual 154, 3)) ∧ (decode cL_law 1209 = .ok (.pop2, 1)) ∧ (decode cL_law 1210 = .ok (.aload_n 2, 1)) ∧ (decode cL_law 1211 = .ok (.aload_n 0, 1)) ∧ (decode cL_law 1212 = .ok (.iload_n 3, 1)) ∧ (decode cL_law 1213 = .ok (.iconst 1, 1)) ∧ (decode cL_law 1214 = .ok (.iadd, 1)) ∧ (decode cL_law 1215 = .ok (.iaload, 1)) ∧ (decode cL_law 1216 = .ok (.invokevirtual 158, 3)) ∧ (decode cL_law 1219 = .ok (.pop2, 1)) ∧ (decode cL_law 1220 = .ok (.goto 108, 3)) ∧ (decode cL_law 1223 = .ok (.aload_n 1, 1)) ∧ (decode cL_law 1224 = .ok (.aload_n 0, 1)) ∧ (decode cL_law 1225 = .ok (.iload_n 3, 1)) ∧ (decode cL_law 1226 = .ok (.iconst 1, 1)) ∧ (decode cL_law 1227 = .ok (.iadd, 1)) := by decide +kernel
theorem dL_law_1206 : decode cL_law 1206 = .ok (.invokevirtual 154, 3) := bL_law_1206.1
theorem dL_law_1209 : decode cL_law 1209 = .ok (.pop2, 1) := bL_law_1206.2.1
theorem dL_law_1210 : decode cL_law 1210 = .ok (.aload_n 2, 1) := bL_law_1206.2.2.1
theorem dL_law_1211 : decode cL_law 1211 = .ok (.aload_n 0, 1) := bL_law_1206.2.2.2.1
theorem dL_law_1212 : decode cL_law 1212 = .ok (.iload_n 3, 1) := bL_law_1206.2.2.2.2.1
theorem dL_law_1213 : decode cL_law 1213 = .ok (.iconst 1, 1) := bL_law_1206.2.2.2.2.2.1
theorem dL_law_1214 : decode cL_law 1214 = .ok (.iadd, 1) := bL_law_1206.2.2.2.2.2.2.1
theorem dL_law_1215 : decode cL_law 1215 = .ok (.iaload, 1) := bL_law_1206.2.2.2.2.2.2.2.1
theorem dL_law_1216 : decode cL_law 1216 = .ok (.invokevirtual 158, 3) := bL_law_1206.2.2.2.2.2.2.2.2.1
theorem dL_law_1219 : decode cL_law 1219 = .ok (.pop2, 1) := bL_law_1206.2.2.2.2.2.2.2.2.2.1
theorem dL_law_1220 : decode cL_law 1220 = .ok (.goto 108, 3) := bL_law_1206.2.2.2.2.2.2.2.2.2.2.1
theorem dL_law_1223 : decode cL_law 1223 = .ok (.aload_n 1, 1) := bL_law_1206.2.2.2.2.2.2.2.2.2.2.2.1
theorem dL_law_1224 : decode cL_law 1224 = .ok (.aload_n 0, 1) := bL_law_1206.2.2.2.2.2.2.2.2.2.2.2.2.1
theorem dL_law_1225 : decode cL_law 1225 = .ok (.iload_n 3, 1) := bL_law_1206.2.2.2.2.2.2.2.2.2.2.2.2.2.1
theorem dL_law_1226 : decode cL_law 1226 = .ok (.iconst 1, 1) := bL_law_1206.2.2.2.2.2.2.2.2.2.2.2.2.2.2.1
theorem dL_law_1227 : decode cL_law 1227 = .ok (.iadd, 1) := bL_law_1206.2.2.2.2.2.2.2.2.2.2.2.2.2.2.2
theorem bL_law_1228 : (decode cL_law 1228 = .ok (.iaload, 1)) ∧ (decode cL_law 1229 = .ok (.invokevirtual 159, 3)) ∧ (decode cL_law 1232 = .ok (.pop, 1)) ∧ (decode cL_law 1233 = .ok (.aload_n 2, 1)) ∧ (decode cL_law 1234 = .ok (.aload_n 0, 1)) ∧ (decode cL_law 1235 = .ok (.iload_n 3, 1)) ∧ (decode cL_law 1236 = .ok (.iconst 1, 1)) ∧ (decode cL_law 1237 = .ok (.iadd, 1)) ∧ (decode cL_law 1238 = .ok (.iaload, 1)) ∧ (decode cL_law 1239 = .ok (.invokevirtual 162, 3)) ∧ (decode cL_law 1242 = .ok (.pop, 1)) ∧ (decode cL_law 1243 = .ok (.goto 85, 3)) ∧ (decode cL_law 1246 = .ok (.aload_n 1, 1)) ∧ (decode cL_law 1247 = .ok (.aload_n 0, 1)) ∧ (decode cL_law 1248 = .ok (.iload_n 3, 1)) ∧ (decode cL_law 1249 = .ok (.iconst 1, 1)) := by decide +kernel
theorem dL_law_1228 : decode cL_law 1228 = .ok (.iaload, 1) := bL_law_1228.1
theorem dL_law_1229 : decode cL_law 1229 = .ok (.invokevirtual 159, 3) := bL_law_1228.2.1
theorem dL_law_1232 : decode cL_law 1232 = .ok (.pop, 1) := bL_law_1228.2.2.1
theorem dL_law_1233 : decode cL_law 1233 = .ok (.aload_n 2, 1) := bL_law_1228.2.2.2.1
theorem dL_law_1234 : decode cL_law 1234 = .ok (.aload_n 0, 1) := bL_law_1228.2.2.2.2.1
theorem dL_law_1235 : decode cL_law 1235 = .ok (.iload_n 3, 1) := bL_law_1228.2.2.2.2.2.1
theorem dL_law_1236 : decode cL_law 1236 = .ok (.iconst 1, 1) := bL_law_1228.2.2.2.2.2.2.1
theorem dL_law_1237 : decode cL_law 1237 = .ok (.iadd, 1) := bL_law_1228.2.2.2.2.2.2.2.1
theorem dL_law_1238 : decode cL_law 1238 = .ok (.iaload, 1) := bL_law_1228.2.2.2.2.2.2.2.2.1
theorem dL_law_1239 : decode cL_law 1239 = .ok (.invokevirtual 162, 3) := bL_law_1228.2.2.2.2.2.2.2.2.2.1
theorem dL_law_1242 : decode cL_law 1242 = .ok (.pop, 1) := bL_law_1228.2.2.2.2.2.2.2.2.2.2.1
theorem dL_law_1243 : decode cL_law 1243 = .ok (.goto 85, 3) := bL_law_1228.2.2.2.2.2.2.2.2.2.2.2.1
theorem dL_law_1246 : decode cL_law 1246 = .ok (.aload_n 1, 1) := bL_law_1228.2.2.2.2.2.2.2.2.2.2.2.2.1
theorem dL_law_1247 : decode cL_law 1247 = .ok (.aload_n 0, 1) := bL_law_1228.2.2.2.2.2.2.2.2.2.2.2.2.2.1
theorem dL_law_1248 : decode cL_law 1248 = .ok (.iload_n 3, 1) := bL_law_1228.2.2.2.2.2.2.2.2.2.2.2.2.2.2.1
theorem dL_law_1249 : decode cL_law 1249 = .ok (.iconst 1, 1) := bL_law_1228.2.2.2.2.2.2.2.2.2.2.2.2.2.2.2
theorem bL_law_1250 : (decode cL_law 1250 = .ok (.iadd, 1)) ∧ (decode cL_law 1251 = .ok (.iaload, 1)) ∧ (decode cL_law 1252 = .ok (.invokevirtual 163, 3)) ∧ (decode cL_law 1255 = .ok (.pop, 1)) ∧ (decode cL_law 1256 = .ok (.aload_n 2, 1)) ∧ (decode cL_law 1257 = .ok (.aload_n 0, 1)) ∧ (decode cL_law 1258 = .ok (.iload_n 3, 1)) ∧ (decode cL_law 1259 = .ok (.iconst 1, 1)) ∧ (decode cL_law 1260 = .ok (.iadd, 1)) ∧ (decode cL_law 1261 = .ok (.iaload, 1)) ∧ (decode cL_law 1262 = .ok (.invokevirtual 166, 3)) ∧ (decode cL_law 1265 = .ok (.pop, 1)) ∧ (decode cL_law 1266 = .ok (.goto 62, 3)) ∧ (decode cL_law 1269 = .ok (.aload_n 1, 1)) ∧ (decode cL_law 1270 = .ok (.aload_n 0, 1)) ∧ (decode cL_law 1271 = .ok (.iload_n 3, 1)) := by decide +kernel
theorem dL_law_1250 : decode cL_law 1250 = .ok (.iadd, 1) := bL_law_1250.1
theorem dL_law_1251 : decode cL_law 1251 = .ok (.iaload, 1) := bL_law_1250.2.1
theorem dL_law_1252 : decode cL_law 1252 = .ok (.invokevirtual 163, 3) := bL_law_1250.2.2.1
theorem dL_law_1255 : decode cL_law 1255 = .ok (.pop, 1) := bL_law_1250.2.2.2.1
theorem dL_law_1256 : decode cL_law 1256 = .ok (.aload_n 2, 1) := bL_law_1250.2.2.2.2.1
theorem dL_law_1257 : decode cL_law 1257 = .ok (.aload_n 0, 1) := bL_law_1250.2.2.2.2.2.1
theorem dL_law_1258 : decode cL_law 1258 = .ok (.iload_n 3, 1) := bL_law_1250.2.2.2.2.2.2.1
theorem dL_law_1259 : decode cL_law 1259 = .ok (.iconst 1, 1) := bL_law_1250.2.2.2.2.2.2.2.1
theorem dL_law_1260 : decode cL_law 1260 = .ok (.iadd, 1) := bL_law_1250.2.2.2.2.2.2.2.2.1
theorem dL_law_1261 : decode cL_law 1261 = .ok (.iaload, 1) := bL_law_1250.2.2.2.2.2.2.2.2.2.1
theorem dL_law_1262 : decode cL_law 1262 = .ok (.invokevirtual 166, 3) := bL_law_1250.2.2.2.2.2.2.2.2.2.2.1
theorem dL_law_1265 : decode cL_law 1265 = .ok (.pop, 1) := bL_law_1250.2.2.2.2.2.2.2.2.2.2.2.1
theorem dL_law_1266 : decode cL_law 1266 = .ok (.goto 62, 3) := bL_law_1250.2.2.2.2.2.2.2.2.2.2.2.2.1
theorem dL_law_1269 : decode cL_law 1269 = .ok (.aload_n 1, 1) := bL_law_1250.2.2.2.2.2.2.2.2.2.2.2.2.2.1
theorem dL_law_1270 : decode cL_law 1270 = .ok (.aload_n 0, 1) := bL_law_1250.2.2.2.2.2.2.2.2.2.2.2.2.2.2.1
theorem dL_law_1271 : decode cL_law 1271 = .ok (.iload_n 3, 1) := bL_law_1250.2.2.2.2.2.2.2.2.2.2.2.2.2.2.2
theorem bL_law_1272 : (decode cL_law 1272 = .ok (.iconst 1, 1)) ∧ (decode cL_law 1273 = .ok (.iadd, 1)) ∧ (decode cL_law 1274 = .ok (.iaload, 1)) ∧ (decode cL_law 1275 = .ok (.invokevirtual 167, 3)) ∧ (decode cL_law 1278 = .ok (.pop, 1)) ∧ (decode cL_law 1279 = .ok (.aload_n 2, 1)) ∧ (decode cL_law 1280 = .ok (.aload_n 0, 1)) ∧ (decode cL_law 1281 = .ok (.iload_n 3, 1)) ∧ (decode cL_law 1282 = .ok (.iconst 1, 1)) ∧ (decode cL_law 1283 = .ok (.iadd, 1)) ∧ (decode cL_law 1284 = .ok (.iaload, 1)) ∧ (decode cL_law 1285 = .ok (.invokevirtual 170, 3)) ∧ (decode cL_law 1288 = .ok (.pop, 1)) ∧ (decode cL_law 1289 = .ok (.goto 39, 3)) ∧ (decode cL_law 1292 = .ok (.aload_n 1, 1)) ∧ (decode cL_law 1293 = .ok (.aload_n 0, 1)) := by decide +kernel
theorem dL_law_1272 : decode cL_law 1272 = .ok (.iconst 1, 1) := bL_law_1272.1
theorem dL_law_1273 : decode cL_law 1273 = .ok (.iadd, 1) := bL_law_1272.2.1
theorem dL_law_1274 : decode cL_law 1274 = .ok (.iaload, 1) := bL_law_1272.2.2.1
theorem dL_law_1275 : decode cL_law 1275 = .ok (.invokevirtual 167, 3) := bL_law_1272.2.2.2.1
theorem dL_law_1278 : decode cL_law 1278 = .ok (.pop, 1) := bL_law_1272.2.2.2.2.1
theorem dL_law_1279 : decode cL_law 1279 = .ok (.aload_n 2, 1) := bL_law_1272.2.2.2.2.2.1
theorem dL_law_1280 : decode cL_law 1280 = .ok (.aload_n 0, 1) := bL_law_1272.2.2.2.2.2.2.1
theorem dL_law_1281 : decode cL_law 1281 = .ok (.iload_n 3, 1) := bL_law_1272.2.2.2.2.2.2.2.1
theorem dL_law_1282 : decode cL_law 1282 = .ok (.iconst 1, 1) := bL_law_1272.2.2.2.2.2.2.2.2.1
theorem dL_law_1283 : decode cL_law 1283 = .ok (.iadd, 1) := bL_law_1272.2.2.2.2.2.2.2.2.2.1
theorem dL_law_1284 : decode cL_law 1284 = .ok (.iaload, 1) := bL_law_1272.2.2.2.2.2.2.2.2.2.2.1
theorem dL_law_1285 : decode cL_law 1285 = .ok (.invokevirtual 170, 3) := bL_law_1272.2.2.2.2.2.2.2.2.2.2.2.1
theorem dL_law_1288 : decode cL_law 1288 = .ok (.pop, 1) := bL_law_1272.2.2.2.2.2.2.2.2.2.2.2.2.1
theorem dL_law_1289 : decode cL_law 1289 = .ok (.goto 39, 3) := bL_law_1272.2.2.2.2.2.2.2.2.2.2.2.2.2.1
theorem dL_law_1292 : decode cL_law 1292 = .ok (.aload_n 1, 1) := bL_law_1272.2.2.2.2.2.2.2.2.2.2.2.2.2.2.1
theorem dL_law_1293 : decode cL_law 1293 = .ok (.aload_n 0, 1) := bL_law_1272.2.2.2.2.2.2.2.2.2.2.2.2.2.2.2
theorem bL_law_1294 : (decode cL_law 1294 = .ok (.iload_n 3, 1)) ∧ (decode cL_law 1295 = .ok (.iconst 1, 1)) ∧ (decode cL_law 1296 = .ok (.iadd, 1)) ∧ (decode cL_law 1297 = .ok (.iaload, 1)) ∧ (decode cL_law 1298 = .ok (.invokevirtual 171, 3)) ∧ (decode cL_law 1301 = .ok (.pop, 1)) ∧ (decode cL_law 1302 = .ok (.aload_n 2, 1)) ∧ (decode cL_law 1303 = .ok (.aload_n 0, 1)) ∧ (decode cL_law 1304 = .ok (.iload_n 3, 1)) ∧ (decode cL_law 1305 = .ok (.iconst 1, 1)) ∧ (decode cL_law 1306 = .ok (.iadd, 1)) ∧ (decode cL_law 1307 = .ok (.iaload, 1)) ∧ (decode cL_law 1308 = .ok (.invokevirtual 174, 3)) ∧ (decode cL_law 1311 = .ok (.pop, 1)) ∧ (decode cL_law 1312 = .ok (.goto 16, 3)) ∧ (decode cL_law 1315 = .ok (.aload_n 1, 1)) := by decide +kernel
theorem dL_law_1294 : decode cL_law 1294 = .ok (.iload_n 3, 1) := bL_law_1294.1
theorem dL_law_1295 : decode cL_law 1295 = .ok (.iconst 1, 1) := bL_law_1294.2.1
theorem dL_law_1296 : decode cL_law 1296 = .ok (.iadd, 1) := bL_law_1294.2.2.1
theorem dL_law_1297 : decode cL_law 1297 = .ok (.iaload, 1) := bL_law_1294.2.2.2.1
theorem dL_law_1298 : decode cL_law 1298 = .ok (.invokevirtual 171, 3) := bL_law_1294.2.2.2.2.1
theorem dL_law_1301 : decode cL_law 1301 = .ok (.pop, 1) := bL_law_1294.2.2.2.2.2.1
theorem dL_law_1302 : decode cL_law 1302 = .ok (.aload_n 2, 1) := bL_law_1294.2.2.2.2.2.2.1
theorem dL_law_1303 : decode cL_law 1303 = .ok (.aload_n 0, 1) := bL_law_1294.2.2.2.2.2.2.2.1
theorem dL_law_1304 : decode cL_law 1304 = .ok (.iload_n 3, 1) := bL_law_1294.2.2.2.2.2.2.2.2.1
theorem dL_law_1305 : decode cL_law 1305 = .ok (.iconst 1, 1) := bL_law_1294.2.2.2.2.2.2.2.2.2.1
theorem dL_law_1306 : decode cL_law 1306 = .ok (.iadd, 1) := bL_law_1294.2.2.2.2.2.2.2.2.2.2.1
theorem dL_law_1307 : decode cL_law 1307 = .ok (.iaload, 1) := bL_law_1294.2.2.2.2.2.2.2.2.2.2.2.1
theorem dL_law_1308 : decode cL_law 1308 = .ok (.invokevirtual 174, 3) := bL_law_1294.2.2.2.2.2.2.2.2.2.2.2.2.1
theorem dL_law_1311 : decode cL_law 1311 = .ok (.pop, 1) := bL_law_1294.2.2.2.2.2.2.2.2.2.2.2.2.2.1
theorem dL_law_1312 : decode cL_law 1312 = .ok (.goto 16, 3) := bL_law_1294.2.2.2.2.2.2.2.2.2.2.2.2.2.2.1
theorem dL_law_1315 : decode cL_law 1315 = .ok (.aload_n 1, 1) := bL_law_1294.2.2.2.2.2.2.2.2.2.2.2.2.2.2.2
theorem bL_law_1316 : (decode cL_law 1316 = .ok (.invokevirtual 175, 3)) ∧ (decode cL_law 1319 = .ok (.pop2, 1)) ∧ (decode cL_law 1320 = .ok (.aload_n 2, 1)) ∧ (decode cL_law 1321 = .ok (.invokevirtual 179, 3)) ∧ (decode cL_law 1324 = .ok (.pop2, 1)) ∧ (decode cL_law 1325 = .ok (.goto 3, 3)) ∧ (decode cL_law 1328 = .ok (.iinc 3 5, 3)) ∧ (decode cL_law 1331 = .ok (.goto (-1313), 3)) ∧ (decode cL_law 1334 = .ok (.iconst 1, 1)) ∧ (decode cL_law 1335 = .ok (.ireturn, 1)) := by decide +kernel
theorem dL_law_1316 : decode cL_law 1316 = .ok (.invokevirtual 175, 3) := bL_law_1316.1
theorem dL_law_1319 : decode cL_law 1319 = .ok (.pop2, 1) := bL_law_1316.2.1
theorem dL_law_1320 : decode cL_law 1320 = .ok (.aload_n 2, 1) := bL_law_1316.2.2.1
theorem dL_law_1321 : decode cL_law 1321 = .ok (.invokevirtual 179, 3) := bL_law_1316.2.2.2.1
theorem dL_law_1324 : decode cL_law 1324 = .ok (.pop2, 1) := bL_law_1316.2.2.2.2.1
theorem dL_law_1325 : decode cL_law 1325 = .ok (.goto 3, 3) := bL_law_1316.2.2.2.2.2.1
theorem dL_law_1328 : decode cL_law 1328 = .ok (.iinc 3 5, 3) := bL_law_1316.2.2.2.2.2.2.1
theorem dL_law_1331 : decode cL_law 1331 = .ok (.goto (-1313), 3) := bL_law_1316.2.2.2.2.2.2.2.1
theorem dL_law_1334 : decode cL_law 1334 = .ok (.iconst 1, 1) := bL_law_1316.2.2.2.2.2.2.2.2.1
theorem dL_law_1335 : decode cL_law 1335 = .ok (.ireturn, 1) := bL_law_1316.2.2.2.2.2.2.2.2.2
