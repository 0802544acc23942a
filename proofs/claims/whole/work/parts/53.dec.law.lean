theorem d_Law_start_0 : decode k_Law_start 0 = .ok (.aload_n 0, 1) := by decide +kernel
theorem d_Law_start_1 : decode k_Law_start 1 = .ok (.iload_n 1, 1) := by decide +kernel
theorem d_Law_start_2 : decode k_Law_start 2 = .ok (.invokevirtual 7, 3) := by decide +kernel
theorem d_Law_start_5 : decode k_Law_start 5 = .ok (.goto 6, 3) := by decide +kernel
theorem d_Law_start_8 : decode k_Law_start 8 = .ok (.astore_n 2, 1) := by decide +kernel
theorem d_Law_start_9 : decode k_Law_start 9 = .ok (.iconst 1, 1) := by decide +kernel
theorem d_Law_start_10 : decode k_Law_start 10 = .ok (.ireturn, 1) := by decide +kernel
theorem d_Law_start_11 : decode k_Law_start 11 = .ok (.iconst 0, 1) := by decide +kernel
theorem d_Law_start_12 : decode k_Law_start 12 = .ok (.ireturn, 1) := by decide +kernel
theorem d_Law_next_0 : decode k_Law_next 0 = .ok (.aload_n 1, 1) := by decide +kernel
theorem d_Law_next_1 : decode k_Law_next 1 = .ok (.iconst 0, 1) := by decide +kernel
theorem d_Law_next_2 : decode k_Law_next 2 = .ok (.aload_n 0, 1) := by decide +kernel
theorem d_Law_next_3 : decode k_Law_next 3 = .ok (.invokevirtual 15, 3) := by decide +kernel
theorem d_Law_next_6 : decode k_Law_next 6 = .ok (.i2l, 1) := by decide +kernel
theorem d_Law_next_7 : decode k_Law_next 7 = .ok (.lastore, 1) := by decide +kernel
theorem d_Law_next_8 : decode k_Law_next 8 = .ok (.goto 6, 3) := by decide +kernel
theorem d_Law_next_11 : decode k_Law_next 11 = .ok (.astore_n 2, 1) := by decide +kernel
theorem d_Law_next_12 : decode k_Law_next 12 = .ok (.iconst 1, 1) := by decide +kernel
theorem d_Law_next_13 : decode k_Law_next 13 = .ok (.ireturn, 1) := by decide +kernel
theorem d_Law_next_14 : decode k_Law_next 14 = .ok (.iconst 0, 1) := by decide +kernel
theorem d_Law_next_15 : decode k_Law_next 15 = .ok (.ireturn, 1) := by decide +kernel
theorem d_Law_label_0 : decode k_Law_label 0 = .ok (.aload_n 2, 1) := by decide +kernel
theorem d_Law_label_1 : decode k_Law_label 1 = .ok (.iconst 0, 1) := by decide +kernel
theorem d_Law_label_2 : decode k_Law_label 2 = .ok (.aload_n 0, 1) := by decide +kernel
theorem d_Law_label_3 : decode k_Law_label 3 = .ok (.iload_n 1, 1) := by decide +kernel
theorem d_Law_label_4 : decode k_Law_label 4 = .ok (.invokevirtual 21, 3) := by decide +kernel
theorem d_Law_label_7 : decode k_Law_label 7 = .ok (.i2l, 1) := by decide +kernel
theorem d_Law_label_8 : decode k_Law_label 8 = .ok (.lastore, 1) := by decide +kernel
theorem d_Law_label_9 : decode k_Law_label 9 = .ok (.goto 9, 3) := by decide +kernel
theorem d_Law_label_12 : decode k_Law_label 12 = .ok (.astore_n 3, 1) := by decide +kernel
theorem d_Law_label_13 : decode k_Law_label 13 = .ok (.iconst 1, 1) := by decide +kernel
theorem d_Law_label_14 : decode k_Law_label 14 = .ok (.ireturn, 1) := by decide +kernel
theorem d_Law_label_15 : decode k_Law_label 15 = .ok (.astore_n 3, 1) := by decide +kernel
theorem d_Law_label_16 : decode k_Law_label 16 = .ok (.iconst 2, 1) := by decide +kernel
theorem d_Law_label_17 : decode k_Law_label 17 = .ok (.ireturn, 1) := by decide +kernel
theorem d_Law_label_18 : decode k_Law_label 18 = .ok (.iconst 0, 1) := by decide +kernel
theorem d_Law_label_19 : decode k_Law_label 19 = .ok (.ireturn, 1) := by decide +kernel
theorem d_Law_count_0 : decode k_Law_count 0 = .ok (.aload_n 2, 1) := by decide +kernel
theorem d_Law_count_1 : decode k_Law_count 1 = .ok (.iconst 0, 1) := by decide +kernel
theorem d_Law_count_2 : decode k_Law_count 2 = .ok (.aload_n 0, 1) := by decide +kernel
theorem d_Law_count_3 : decode k_Law_count 3 = .ok (.iload_n 1, 1) := by decide +kernel
theorem d_Law_count_4 : decode k_Law_count 4 = .ok (.invokevirtual 25, 3) := by decide +kernel
theorem d_Law_count_7 : decode k_Law_count 7 = .ok (.i2l, 1) := by decide +kernel
theorem d_Law_count_8 : decode k_Law_count 8 = .ok (.lastore, 1) := by decide +kernel
theorem d_Law_count_9 : decode k_Law_count 9 = .ok (.goto 6, 3) := by decide +kernel
theorem d_Law_count_12 : decode k_Law_count 12 = .ok (.astore_n 3, 1) := by decide +kernel
theorem d_Law_count_13 : decode k_Law_count 13 = .ok (.iconst 1, 1) := by decide +kernel
theorem d_Law_count_14 : decode k_Law_count 14 = .ok (.ireturn, 1) := by decide +kernel
theorem d_Law_count_15 : decode k_Law_count 15 = .ok (.iconst 0, 1) := by decide +kernel
theorem d_Law_count_16 : decode k_Law_count 16 = .ok (.ireturn, 1) := by decide +kernel
theorem d_Law_holds_0 : decode k_Law_holds 0 = .ok (.aload 4, 2) := by decide +kernel
theorem d_Law_holds_2 : decode k_Law_holds 2 = .ok (.iconst 0, 1) := by decide +kernel
theorem d_Law_holds_3 : decode k_Law_holds 3 = .ok (.aload_n 0, 1) := by decide +kernel
theorem d_Law_holds_4 : decode k_Law_holds 4 = .ok (.iload_n 1, 1) := by decide +kernel
theorem d_Law_holds_5 : decode k_Law_holds 5 = .ok (.iload_n 2, 1) := by decide +kernel
theorem d_Law_holds_6 : decode k_Law_holds 6 = .ok (.iload_n 3, 1) := by decide +kernel
theorem d_Law_holds_7 : decode k_Law_holds 7 = .ok (.invokevirtual 28, 3) := by decide +kernel
theorem d_Law_holds_10 : decode k_Law_holds 10 = .ok (.ifCond .eq 7, 3) := by decide +kernel
theorem d_Law_holds_13 : decode k_Law_holds 13 = .ok (.lconst 1, 1) := by decide +kernel
theorem d_Law_holds_14 : decode k_Law_holds 14 = .ok (.goto 4, 3) := by decide +kernel
theorem d_Law_holds_17 : decode k_Law_holds 17 = .ok (.lconst 0, 1) := by decide +kernel
theorem d_Law_holds_18 : decode k_Law_holds 18 = .ok (.lastore, 1) := by decide +kernel
theorem d_Law_holds_19 : decode k_Law_holds 19 = .ok (.goto 7, 3) := by decide +kernel
theorem d_Law_holds_22 : decode k_Law_holds 22 = .ok (.astore 5, 2) := by decide +kernel
theorem d_Law_holds_24 : decode k_Law_holds 24 = .ok (.iconst 1, 1) := by decide +kernel
theorem d_Law_holds_25 : decode k_Law_holds 25 = .ok (.ireturn, 1) := by decide +kernel
theorem d_Law_holds_26 : decode k_Law_holds 26 = .ok (.iconst 0, 1) := by decide +kernel
theorem d_Law_holds_27 : decode k_Law_holds 27 = .ok (.ireturn, 1) := by decide +kernel
theorem d_Law_dialogue_0 : decode k_Law_dialogue 0 = .ok (.aload_n 2, 1) := by decide +kernel
theorem d_Law_dialogue_1 : decode k_Law_dialogue 1 = .ok (.iconst 0, 1) := by decide +kernel
theorem d_Law_dialogue_2 : decode k_Law_dialogue 2 = .ok (.aload_n 0, 1) := by decide +kernel
theorem d_Law_dialogue_3 : decode k_Law_dialogue 3 = .ok (.iload_n 1, 1) := by decide +kernel
theorem d_Law_dialogue_4 : decode k_Law_dialogue 4 = .ok (.invokevirtual 32, 3) := by decide +kernel
theorem d_Law_dialogue_7 : decode k_Law_dialogue 7 = .ok (.i2l, 1) := by decide +kernel
theorem d_Law_dialogue_8 : decode k_Law_dialogue 8 = .ok (.lastore, 1) := by decide +kernel
theorem d_Law_dialogue_9 : decode k_Law_dialogue 9 = .ok (.goto 6, 3) := by decide +kernel
theorem d_Law_dialogue_12 : decode k_Law_dialogue 12 = .ok (.astore_n 3, 1) := by decide +kernel
theorem d_Law_dialogue_13 : decode k_Law_dialogue 13 = .ok (.iconst 1, 1) := by decide +kernel
theorem d_Law_dialogue_14 : decode k_Law_dialogue 14 = .ok (.ireturn, 1) := by decide +kernel
theorem d_Law_dialogue_15 : decode k_Law_dialogue 15 = .ok (.iconst 0, 1) := by decide +kernel
theorem d_Law_dialogue_16 : decode k_Law_dialogue 16 = .ok (.ireturn, 1) := by decide +kernel
theorem d_Law_law_0 : decode code 0 = .ok (.new 8, 3) := by decide +kernel
theorem d_Law_law_3 : decode code 3 = .ok (.dup, 1) := by decide +kernel
theorem d_Law_law_4 : decode code 4 = .ok (.invokespecial 35, 3) := by decide +kernel
theorem d_Law_law_7 : decode code 7 = .ok (.astore_n 1, 1) := by decide +kernel
theorem d_Law_law_8 : decode code 8 = .ok (.new 36, 3) := by decide +kernel
theorem d_Law_law_11 : decode code 11 = .ok (.dup, 1) := by decide +kernel
theorem d_Law_law_12 : decode code 12 = .ok (.invokespecial 38, 3) := by decide +kernel
theorem d_Law_law_15 : decode code 15 = .ok (.astore_n 2, 1) := by decide +kernel
theorem d_Law_law_16 : decode code 16 = .ok (.iconst 1, 1) := by decide +kernel
theorem d_Law_law_17 : decode code 17 = .ok (.newarray .long, 2) := by decide +kernel
theorem d_Law_law_19 : decode code 19 = .ok (.astore_n 3, 1) := by decide +kernel
theorem d_Law_law_20 : decode code 20 = .ok (.iconst 0, 1) := by decide +kernel
theorem d_Law_law_21 : decode code 21 = .ok (.istore 4, 2) := by decide +kernel
theorem d_Law_law_23 : decode code 23 = .ok (.iload 4, 2) := by decide +kernel
theorem d_Law_law_25 : decode code 25 = .ok (.aload_n 0, 1) := by decide +kernel
theorem d_Law_law_26 : decode code 26 = .ok (.arraylength, 1) := by decide +kernel
theorem d_Law_law_27 : decode code 27 = .ok (.iconst 4, 1) := by decide +kernel
theorem d_Law_law_28 : decode code 28 = .ok (.isub, 1) := by decide +kernel
theorem d_Law_law_29 : decode code 29 = .ok (.if_icmp .gt 920, 3) := by decide +kernel
theorem d_Law_law_32 : decode code 32 = .ok (.aload_n 0, 1) := by decide +kernel
theorem d_Law_law_33 : decode code 33 = .ok (.iload 4, 2) := by decide +kernel
theorem d_Law_law_35 : decode code 35 = .ok (.iaload, 1) := by decide +kernel
theorem d_Law_law_36 : decode code 36 = .ok (.bipush 31, 2) := by decide +kernel
theorem d_Law_law_38 : decode code 38 = .ok (.iand, 1) := by decide +kernel
theorem d_Law_law_39 : decode code 39 = .ok (.tableswitch 904 0 21 #[101, 114, 179, 216, 265, 302, 315, 340, 377, 402, 427, 440, 465, 478, 514, 558, 614, 670, 773, 829, 866, 891], 101) := by decide +kernel
theorem d_Law_law_140 : decode code 140 = .ok (.aload_n 1, 1) := by decide +kernel
theorem d_Law_law_141 : decode code 141 = .ok (.invokevirtual 39, 3) := by decide +kernel
theorem d_Law_law_144 : decode code 144 = .ok (.aload_n 2, 1) := by decide +kernel
theorem d_Law_law_145 : decode code 145 = .ok (.invokevirtual 42, 3) := by decide +kernel
theorem d_Law_law_148 : decode code 148 = .ok (.if_icmp .eq 795, 3) := by decide +kernel
theorem d_Law_law_151 : decode code 151 = .ok (.iconst 0, 1) := by decide +kernel
theorem d_Law_law_152 : decode code 152 = .ok (.ireturn, 1) := by decide +kernel
theorem d_Law_law_153 : decode code 153 = .ok (.aload_n 1, 1) := by decide +kernel
theorem d_Law_law_154 : decode code 154 = .ok (.aload_n 0, 1) := by decide +kernel
theorem d_Law_law_155 : decode code 155 = .ok (.iload 4, 2) := by decide +kernel
theorem d_Law_law_157 : decode code 157 = .ok (.iconst 1, 1) := by decide +kernel
theorem d_Law_law_158 : decode code 158 = .ok (.iadd, 1) := by decide +kernel
theorem d_Law_law_159 : decode code 159 = .ok (.iaload, 1) := by decide +kernel
theorem d_Law_law_160 : decode code 160 = .ok (.aload_n 0, 1) := by decide +kernel
theorem d_Law_law_161 : decode code 161 = .ok (.iload 4, 2) := by decide +kernel
theorem d_Law_law_163 : decode code 163 = .ok (.iconst 2, 1) := by decide +kernel
theorem d_Law_law_164 : decode code 164 = .ok (.iadd, 1) := by decide +kernel
theorem d_Law_law_165 : decode code 165 = .ok (.iaload, 1) := by decide +kernel
theorem d_Law_law_166 : decode code 166 = .ok (.aload_n 0, 1) := by decide +kernel
theorem d_Law_law_167 : decode code 167 = .ok (.iload 4, 2) := by decide +kernel
theorem d_Law_law_169 : decode code 169 = .ok (.iconst 3, 1) := by decide +kernel
theorem d_Law_law_170 : decode code 170 = .ok (.iadd, 1) := by decide +kernel
theorem d_Law_law_171 : decode code 171 = .ok (.iaload, 1) := by decide +kernel
theorem d_Law_law_172 : decode code 172 = .ok (.ifCond .eq 7, 3) := by decide +kernel
theorem d_Law_law_175 : decode code 175 = .ok (.iconst 1, 1) := by decide +kernel
theorem d_Law_law_176 : decode code 176 = .ok (.goto 4, 3) := by decide +kernel
theorem d_Law_law_179 : decode code 179 = .ok (.iconst 0, 1) := by decide +kernel
theorem d_Law_law_180 : decode code 180 = .ok (.invokevirtual 43, 3) := by decide +kernel
theorem d_Law_law_183 : decode code 183 = .ok (.aload_n 2, 1) := by decide +kernel
theorem d_Law_law_184 : decode code 184 = .ok (.aload_n 0, 1) := by decide +kernel
theorem d_Law_law_185 : decode code 185 = .ok (.iload 4, 2) := by decide +kernel
theorem d_Law_law_187 : decode code 187 = .ok (.iconst 1, 1) := by decide +kernel
theorem d_Law_law_188 : decode code 188 = .ok (.iadd, 1) := by decide +kernel
theorem d_Law_law_189 : decode code 189 = .ok (.iaload, 1) := by decide +kernel
theorem d_Law_law_190 : decode code 190 = .ok (.aload_n 0, 1) := by decide +kernel
theorem d_Law_law_191 : decode code 191 = .ok (.iload 4, 2) := by decide +kernel
theorem d_Law_law_193 : decode code 193 = .ok (.iconst 2, 1) := by decide +kernel
theorem d_Law_law_194 : decode code 194 = .ok (.iadd, 1) := by decide +kernel
theorem d_Law_law_195 : decode code 195 = .ok (.iaload, 1) := by decide +kernel
theorem d_Law_law_196 : decode code 196 = .ok (.aload_n 0, 1) := by decide +kernel
theorem d_Law_law_197 : decode code 197 = .ok (.iload 4, 2) := by decide +kernel
theorem d_Law_law_199 : decode code 199 = .ok (.iconst 3, 1) := by decide +kernel
theorem d_Law_law_200 : decode code 200 = .ok (.iadd, 1) := by decide +kernel
theorem d_Law_law_201 : decode code 201 = .ok (.iaload, 1) := by decide +kernel
theorem d_Law_law_202 : decode code 202 = .ok (.ifCond .eq 7, 3) := by decide +kernel
theorem d_Law_law_205 : decode code 205 = .ok (.iconst 1, 1) := by decide +kernel
theorem d_Law_law_206 : decode code 206 = .ok (.goto 4, 3) := by decide +kernel
theorem d_Law_law_209 : decode code 209 = .ok (.iconst 0, 1) := by decide +kernel
theorem d_Law_law_210 : decode code 210 = .ok (.invokevirtual 46, 3) := by decide +kernel
theorem d_Law_law_213 : decode code 213 = .ok (.if_icmp .eq 730, 3) := by decide +kernel
theorem d_Law_law_216 : decode code 216 = .ok (.iconst 0, 1) := by decide +kernel
theorem d_Law_law_217 : decode code 217 = .ok (.ireturn, 1) := by decide +kernel
theorem d_Law_law_218 : decode code 218 = .ok (.aload_n 1, 1) := by decide +kernel
theorem d_Law_law_219 : decode code 219 = .ok (.aload_n 0, 1) := by decide +kernel
theorem d_Law_law_220 : decode code 220 = .ok (.iload 4, 2) := by decide +kernel
theorem d_Law_law_222 : decode code 222 = .ok (.iconst 1, 1) := by decide +kernel
theorem d_Law_law_223 : decode code 223 = .ok (.iadd, 1) := by decide +kernel
theorem d_Law_law_224 : decode code 224 = .ok (.iaload, 1) := by decide +kernel
theorem d_Law_law_225 : decode code 225 = .ok (.aload_n 0, 1) := by decide +kernel
theorem d_Law_law_226 : decode code 226 = .ok (.iload 4, 2) := by decide +kernel
theorem d_Law_law_228 : decode code 228 = .ok (.iconst 2, 1) := by decide +kernel
theorem d_Law_law_229 : decode code 229 = .ok (.iadd, 1) := by decide +kernel
theorem d_Law_law_230 : decode code 230 = .ok (.iaload, 1) := by decide +kernel
theorem d_Law_law_231 : decode code 231 = .ok (.invokevirtual 47, 3) := by decide +kernel
theorem d_Law_law_234 : decode code 234 = .ok (.aload_n 2, 1) := by decide +kernel
theorem d_Law_law_235 : decode code 235 = .ok (.aload_n 0, 1) := by decide +kernel
theorem d_Law_law_236 : decode code 236 = .ok (.iload 4, 2) := by decide +kernel
theorem d_Law_law_238 : decode code 238 = .ok (.iconst 1, 1) := by decide +kernel
theorem d_Law_law_239 : decode code 239 = .ok (.iadd, 1) := by decide +kernel
theorem d_Law_law_240 : decode code 240 = .ok (.iaload, 1) := by decide +kernel
theorem d_Law_law_241 : decode code 241 = .ok (.aload_n 0, 1) := by decide +kernel
theorem d_Law_law_242 : decode code 242 = .ok (.iload 4, 2) := by decide +kernel
theorem d_Law_law_244 : decode code 244 = .ok (.iconst 2, 1) := by decide +kernel
theorem d_Law_law_245 : decode code 245 = .ok (.iadd, 1) := by decide +kernel
theorem d_Law_law_246 : decode code 246 = .ok (.iaload, 1) := by decide +kernel
theorem d_Law_law_247 : decode code 247 = .ok (.invokevirtual 51, 3) := by decide +kernel
theorem d_Law_law_250 : decode code 250 = .ok (.if_icmp .eq 693, 3) := by decide +kernel
theorem d_Law_law_253 : decode code 253 = .ok (.iconst 0, 1) := by decide +kernel
theorem d_Law_law_254 : decode code 254 = .ok (.ireturn, 1) := by decide +kernel
theorem d_Law_law_255 : decode code 255 = .ok (.aload_n 1, 1) := by decide +kernel
theorem d_Law_law_256 : decode code 256 = .ok (.aload_n 0, 1) := by decide +kernel
theorem d_Law_law_257 : decode code 257 = .ok (.iload 4, 2) := by decide +kernel
theorem d_Law_law_259 : decode code 259 = .ok (.iconst 1, 1) := by decide +kernel
theorem d_Law_law_260 : decode code 260 = .ok (.iadd, 1) := by decide +kernel
theorem d_Law_law_261 : decode code 261 = .ok (.iaload, 1) := by decide +kernel
theorem d_Law_law_262 : decode code 262 = .ok (.aload_n 0, 1) := by decide +kernel
theorem d_Law_law_263 : decode code 263 = .ok (.iload 4, 2) := by decide +kernel
theorem d_Law_law_265 : decode code 265 = .ok (.iconst 2, 1) := by decide +kernel
theorem d_Law_law_266 : decode code 266 = .ok (.iadd, 1) := by decide +kernel
theorem d_Law_law_267 : decode code 267 = .ok (.iaload, 1) := by decide +kernel
theorem d_Law_law_268 : decode code 268 = .ok (.aload_n 0, 1) := by decide +kernel
theorem d_Law_law_269 : decode code 269 = .ok (.iload 4, 2) := by decide +kernel
theorem d_Law_law_271 : decode code 271 = .ok (.iconst 3, 1) := by decide +kernel
theorem d_Law_law_272 : decode code 272 = .ok (.iadd, 1) := by decide +kernel
theorem d_Law_law_273 : decode code 273 = .ok (.iaload, 1) := by decide +kernel
theorem d_Law_law_274 : decode code 274 = .ok (.invokevirtual 52, 3) := by decide +kernel
theorem d_Law_law_277 : decode code 277 = .ok (.aload_n 2, 1) := by decide +kernel
theorem d_Law_law_278 : decode code 278 = .ok (.aload_n 0, 1) := by decide +kernel
theorem d_Law_law_279 : decode code 279 = .ok (.iload 4, 2) := by decide +kernel
theorem d_Law_law_281 : decode code 281 = .ok (.iconst 1, 1) := by decide +kernel
theorem d_Law_law_282 : decode code 282 = .ok (.iadd, 1) := by decide +kernel
theorem d_Law_law_283 : decode code 283 = .ok (.iaload, 1) := by decide +kernel
theorem d_Law_law_284 : decode code 284 = .ok (.aload_n 0, 1) := by decide +kernel
theorem d_Law_law_285 : decode code 285 = .ok (.iload 4, 2) := by decide +kernel
theorem d_Law_law_287 : decode code 287 = .ok (.iconst 2, 1) := by decide +kernel
theorem d_Law_law_288 : decode code 288 = .ok (.iadd, 1) := by decide +kernel
theorem d_Law_law_289 : decode code 289 = .ok (.iaload, 1) := by decide +kernel
theorem d_Law_law_290 : decode code 290 = .ok (.aload_n 0, 1) := by decide +kernel
theorem d_Law_law_291 : decode code 291 = .ok (.iload 4, 2) := by decide +kernel
theorem d_Law_law_293 : decode code 293 = .ok (.iconst 3, 1) := by decide +kernel
theorem d_Law_law_294 : decode code 294 = .ok (.iadd, 1) := by decide +kernel
theorem d_Law_law_295 : decode code 295 = .ok (.iaload, 1) := by decide +kernel
theorem d_Law_law_296 : decode code 296 = .ok (.invokevirtual 56, 3) := by decide +kernel
theorem d_Law_law_299 : decode code 299 = .ok (.if_icmp .eq 644, 3) := by decide +kernel
theorem d_Law_law_302 : decode code 302 = .ok (.iconst 0, 1) := by decide +kernel
theorem d_Law_law_303 : decode code 303 = .ok (.ireturn, 1) := by decide +kernel
theorem d_Law_law_304 : decode code 304 = .ok (.aload_n 1, 1) := by decide +kernel
theorem d_Law_law_305 : decode code 305 = .ok (.aload_n 0, 1) := by decide +kernel
theorem d_Law_law_306 : decode code 306 = .ok (.iload 4, 2) := by decide +kernel
theorem d_Law_law_308 : decode code 308 = .ok (.iconst 1, 1) := by decide +kernel
theorem d_Law_law_309 : decode code 309 = .ok (.iadd, 1) := by decide +kernel
theorem d_Law_law_310 : decode code 310 = .ok (.iaload, 1) := by decide +kernel
theorem d_Law_law_311 : decode code 311 = .ok (.aload_n 0, 1) := by decide +kernel
theorem d_Law_law_312 : decode code 312 = .ok (.iload 4, 2) := by decide +kernel
theorem d_Law_law_314 : decode code 314 = .ok (.iconst 2, 1) := by decide +kernel
theorem d_Law_law_315 : decode code 315 = .ok (.iadd, 1) := by decide +kernel
theorem d_Law_law_316 : decode code 316 = .ok (.iaload, 1) := by decide +kernel
theorem d_Law_law_317 : decode code 317 = .ok (.invokevirtual 57, 3) := by decide +kernel
theorem d_Law_law_320 : decode code 320 = .ok (.aload_n 2, 1) := by decide +kernel
theorem d_Law_law_321 : decode code 321 = .ok (.aload_n 0, 1) := by decide +kernel
theorem d_Law_law_322 : decode code 322 = .ok (.iload 4, 2) := by decide +kernel
theorem d_Law_law_324 : decode code 324 = .ok (.iconst 1, 1) := by decide +kernel
theorem d_Law_law_325 : decode code 325 = .ok (.iadd, 1) := by decide +kernel
theorem d_Law_law_326 : decode code 326 = .ok (.iaload, 1) := by decide +kernel
theorem d_Law_law_327 : decode code 327 = .ok (.aload_n 0, 1) := by decide +kernel
theorem d_Law_law_328 : decode code 328 = .ok (.iload 4, 2) := by decide +kernel
theorem d_Law_law_330 : decode code 330 = .ok (.iconst 2, 1) := by decide +kernel
theorem d_Law_law_331 : decode code 331 = .ok (.iadd, 1) := by decide +kernel
theorem d_Law_law_332 : decode code 332 = .ok (.iaload, 1) := by decide +kernel
theorem d_Law_law_333 : decode code 333 = .ok (.invokevirtual 61, 3) := by decide +kernel
theorem d_Law_law_336 : decode code 336 = .ok (.if_icmp .eq 607, 3) := by decide +kernel
theorem d_Law_law_339 : decode code 339 = .ok (.iconst 0, 1) := by decide +kernel
theorem d_Law_law_340 : decode code 340 = .ok (.ireturn, 1) := by decide +kernel
theorem d_Law_law_341 : decode code 341 = .ok (.aload_n 1, 1) := by decide +kernel
theorem d_Law_law_342 : decode code 342 = .ok (.invokevirtual 62, 3) := by decide +kernel
theorem d_Law_law_345 : decode code 345 = .ok (.aload_n 2, 1) := by decide +kernel
theorem d_Law_law_346 : decode code 346 = .ok (.invokevirtual 65, 3) := by decide +kernel
theorem d_Law_law_349 : decode code 349 = .ok (.if_icmp .eq 594, 3) := by decide +kernel
theorem d_Law_law_352 : decode code 352 = .ok (.iconst 0, 1) := by decide +kernel
theorem d_Law_law_353 : decode code 353 = .ok (.ireturn, 1) := by decide +kernel
theorem d_Law_law_354 : decode code 354 = .ok (.aload_n 1, 1) := by decide +kernel
theorem d_Law_law_355 : decode code 355 = .ok (.aload_n 0, 1) := by decide +kernel
theorem d_Law_law_356 : decode code 356 = .ok (.iload 4, 2) := by decide +kernel
theorem d_Law_law_358 : decode code 358 = .ok (.iconst 1, 1) := by decide +kernel
theorem d_Law_law_359 : decode code 359 = .ok (.iadd, 1) := by decide +kernel
theorem d_Law_law_360 : decode code 360 = .ok (.iaload, 1) := by decide +kernel
theorem d_Law_law_361 : decode code 361 = .ok (.invokevirtual 66, 3) := by decide +kernel
theorem d_Law_law_364 : decode code 364 = .ok (.aload_n 2, 1) := by decide +kernel
theorem d_Law_law_365 : decode code 365 = .ok (.aload_n 0, 1) := by decide +kernel
theorem d_Law_law_366 : decode code 366 = .ok (.iload 4, 2) := by decide +kernel
theorem d_Law_law_368 : decode code 368 = .ok (.iconst 1, 1) := by decide +kernel
theorem d_Law_law_369 : decode code 369 = .ok (.iadd, 1) := by decide +kernel
theorem d_Law_law_370 : decode code 370 = .ok (.iaload, 1) := by decide +kernel
theorem d_Law_law_371 : decode code 371 = .ok (.invokevirtual 70, 3) := by decide +kernel
theorem d_Law_law_374 : decode code 374 = .ok (.if_icmp .eq 569, 3) := by decide +kernel
theorem d_Law_law_377 : decode code 377 = .ok (.iconst 0, 1) := by decide +kernel
theorem d_Law_law_378 : decode code 378 = .ok (.ireturn, 1) := by decide +kernel
theorem d_Law_law_379 : decode code 379 = .ok (.aload_n 1, 1) := by decide +kernel
theorem d_Law_law_380 : decode code 380 = .ok (.aload_n 0, 1) := by decide +kernel
theorem d_Law_law_381 : decode code 381 = .ok (.iload 4, 2) := by decide +kernel
theorem d_Law_law_383 : decode code 383 = .ok (.iconst 1, 1) := by decide +kernel
theorem d_Law_law_384 : decode code 384 = .ok (.iadd, 1) := by decide +kernel
theorem d_Law_law_385 : decode code 385 = .ok (.iaload, 1) := by decide +kernel
theorem d_Law_law_386 : decode code 386 = .ok (.aload_n 0, 1) := by decide +kernel
theorem d_Law_law_387 : decode code 387 = .ok (.iload 4, 2) := by decide +kernel
theorem d_Law_law_389 : decode code 389 = .ok (.iconst 2, 1) := by decide +kernel
theorem d_Law_law_390 : decode code 390 = .ok (.iadd, 1) := by decide +kernel
theorem d_Law_law_391 : decode code 391 = .ok (.iaload, 1) := by decide +kernel
theorem d_Law_law_392 : decode code 392 = .ok (.invokevirtual 71, 3) := by decide +kernel
theorem d_Law_law_395 : decode code 395 = .ok (.aload_n 2, 1) := by decide +kernel
theorem d_Law_law_396 : decode code 396 = .ok (.aload_n 0, 1) := by decide +kernel
theorem d_Law_law_397 : decode code 397 = .ok (.iload 4, 2) := by decide +kernel
theorem d_Law_law_399 : decode code 399 = .ok (.iconst 1, 1) := by decide +kernel
theorem d_Law_law_400 : decode code 400 = .ok (.iadd, 1) := by decide +kernel
theorem d_Law_law_401 : decode code 401 = .ok (.iaload, 1) := by decide +kernel
theorem d_Law_law_402 : decode code 402 = .ok (.aload_n 0, 1) := by decide +kernel
theorem d_Law_law_403 : decode code 403 = .ok (.iload 4, 2) := by decide +kernel
theorem d_Law_law_405 : decode code 405 = .ok (.iconst 2, 1) := by decide +kernel
theorem d_Law_law_406 : decode code 406 = .ok (.iadd, 1) := by decide +kernel
theorem d_Law_law_407 : decode code 407 = .ok (.iaload, 1) := by decide +kernel
theorem d_Law_law_408 : decode code 408 = .ok (.invokevirtual 74, 3) := by decide +kernel
theorem d_Law_law_411 : decode code 411 = .ok (.if_icmp .eq 532, 3) := by decide +kernel
theorem d_Law_law_414 : decode code 414 = .ok (.iconst 0, 1) := by decide +kernel
theorem d_Law_law_415 : decode code 415 = .ok (.ireturn, 1) := by decide +kernel
theorem d_Law_law_416 : decode code 416 = .ok (.aload_n 1, 1) := by decide +kernel
theorem d_Law_law_417 : decode code 417 = .ok (.aload_n 0, 1) := by decide +kernel
theorem d_Law_law_418 : decode code 418 = .ok (.iload 4, 2) := by decide +kernel
theorem d_Law_law_420 : decode code 420 = .ok (.iconst 1, 1) := by decide +kernel
theorem d_Law_law_421 : decode code 421 = .ok (.iadd, 1) := by decide +kernel
theorem d_Law_law_422 : decode code 422 = .ok (.iaload, 1) := by decide +kernel
theorem d_Law_law_423 : decode code 423 = .ok (.invokevirtual 75, 3) := by decide +kernel
theorem d_Law_law_426 : decode code 426 = .ok (.aload_n 2, 1) := by decide +kernel
theorem d_Law_law_427 : decode code 427 = .ok (.aload_n 0, 1) := by decide +kernel
theorem d_Law_law_428 : decode code 428 = .ok (.iload 4, 2) := by decide +kernel
theorem d_Law_law_430 : decode code 430 = .ok (.iconst 1, 1) := by decide +kernel
theorem d_Law_law_431 : decode code 431 = .ok (.iadd, 1) := by decide +kernel
theorem d_Law_law_432 : decode code 432 = .ok (.iaload, 1) := by decide +kernel
theorem d_Law_law_433 : decode code 433 = .ok (.invokevirtual 78, 3) := by decide +kernel
theorem d_Law_law_436 : decode code 436 = .ok (.if_icmp .eq 507, 3) := by decide +kernel
theorem d_Law_law_439 : decode code 439 = .ok (.iconst 0, 1) := by decide +kernel
theorem d_Law_law_440 : decode code 440 = .ok (.ireturn, 1) := by decide +kernel
theorem d_Law_law_441 : decode code 441 = .ok (.aload_n 1, 1) := by decide +kernel
theorem d_Law_law_442 : decode code 442 = .ok (.aload_n 0, 1) := by decide +kernel
theorem d_Law_law_443 : decode code 443 = .ok (.iload 4, 2) := by decide +kernel
theorem d_Law_law_445 : decode code 445 = .ok (.iconst 1, 1) := by decide +kernel
theorem d_Law_law_446 : decode code 446 = .ok (.iadd, 1) := by decide +kernel
theorem d_Law_law_447 : decode code 447 = .ok (.iaload, 1) := by decide +kernel
theorem d_Law_law_448 : decode code 448 = .ok (.invokevirtual 79, 3) := by decide +kernel
theorem d_Law_law_451 : decode code 451 = .ok (.aload_n 2, 1) := by decide +kernel
theorem d_Law_law_452 : decode code 452 = .ok (.aload_n 0, 1) := by decide +kernel
theorem d_Law_law_453 : decode code 453 = .ok (.iload 4, 2) := by decide +kernel
theorem d_Law_law_455 : decode code 455 = .ok (.iconst 1, 1) := by decide +kernel
theorem d_Law_law_456 : decode code 456 = .ok (.iadd, 1) := by decide +kernel
theorem d_Law_law_457 : decode code 457 = .ok (.iaload, 1) := by decide +kernel
theorem d_Law_law_458 : decode code 458 = .ok (.invokevirtual 82, 3) := by decide +kernel
theorem d_Law_law_461 : decode code 461 = .ok (.if_icmp .eq 482, 3) := by decide +kernel
theorem d_Law_law_464 : decode code 464 = .ok (.iconst 0, 1) := by decide +kernel
theorem d_Law_law_465 : decode code 465 = .ok (.ireturn, 1) := by decide +kernel
theorem d_Law_law_466 : decode code 466 = .ok (.aload_n 1, 1) := by decide +kernel
theorem d_Law_law_467 : decode code 467 = .ok (.invokevirtual 83, 3) := by decide +kernel
theorem d_Law_law_470 : decode code 470 = .ok (.aload_n 2, 1) := by decide +kernel
theorem d_Law_law_471 : decode code 471 = .ok (.invokevirtual 86, 3) := by decide +kernel
theorem d_Law_law_474 : decode code 474 = .ok (.if_icmp .eq 469, 3) := by decide +kernel
theorem d_Law_law_477 : decode code 477 = .ok (.iconst 0, 1) := by decide +kernel
theorem d_Law_law_478 : decode code 478 = .ok (.ireturn, 1) := by decide +kernel
theorem d_Law_law_479 : decode code 479 = .ok (.aload_n 1, 1) := by decide +kernel
theorem d_Law_law_480 : decode code 480 = .ok (.aload_n 0, 1) := by decide +kernel
theorem d_Law_law_481 : decode code 481 = .ok (.iload 4, 2) := by decide +kernel
theorem d_Law_law_483 : decode code 483 = .ok (.iconst 1, 1) := by decide +kernel
theorem d_Law_law_484 : decode code 484 = .ok (.iadd, 1) := by decide +kernel
theorem d_Law_law_485 : decode code 485 = .ok (.iaload, 1) := by decide +kernel
theorem d_Law_law_486 : decode code 486 = .ok (.invokevirtual 87, 3) := by decide +kernel
theorem d_Law_law_489 : decode code 489 = .ok (.aload_n 2, 1) := by decide +kernel
theorem d_Law_law_490 : decode code 490 = .ok (.aload_n 0, 1) := by decide +kernel
theorem d_Law_law_491 : decode code 491 = .ok (.iload 4, 2) := by decide +kernel
theorem d_Law_law_493 : decode code 493 = .ok (.iconst 1, 1) := by decide +kernel
theorem d_Law_law_494 : decode code 494 = .ok (.iadd, 1) := by decide +kernel
theorem d_Law_law_495 : decode code 495 = .ok (.iaload, 1) := by decide +kernel
theorem d_Law_law_496 : decode code 496 = .ok (.invokevirtual 90, 3) := by decide +kernel
theorem d_Law_law_499 : decode code 499 = .ok (.if_icmp .eq 444, 3) := by decide +kernel
theorem d_Law_law_502 : decode code 502 = .ok (.iconst 0, 1) := by decide +kernel
theorem d_Law_law_503 : decode code 503 = .ok (.ireturn, 1) := by decide +kernel
theorem d_Law_law_504 : decode code 504 = .ok (.aload_n 1, 1) := by decide +kernel
theorem d_Law_law_505 : decode code 505 = .ok (.invokevirtual 91, 3) := by decide +kernel
theorem d_Law_law_508 : decode code 508 = .ok (.aload_n 2, 1) := by decide +kernel
theorem d_Law_law_509 : decode code 509 = .ok (.invokevirtual 94, 3) := by decide +kernel
theorem d_Law_law_512 : decode code 512 = .ok (.if_icmp .eq 431, 3) := by decide +kernel
theorem d_Law_law_515 : decode code 515 = .ok (.iconst 0, 1) := by decide +kernel
theorem d_Law_law_516 : decode code 516 = .ok (.ireturn, 1) := by decide +kernel
theorem d_Law_law_517 : decode code 517 = .ok (.aload_n 1, 1) := by decide +kernel
theorem d_Law_law_518 : decode code 518 = .ok (.aload_n 0, 1) := by decide +kernel
theorem d_Law_law_519 : decode code 519 = .ok (.iload 4, 2) := by decide +kernel
theorem d_Law_law_521 : decode code 521 = .ok (.iconst 1, 1) := by decide +kernel
theorem d_Law_law_522 : decode code 522 = .ok (.iadd, 1) := by decide +kernel
theorem d_Law_law_523 : decode code 523 = .ok (.iaload, 1) := by decide +kernel
theorem d_Law_law_524 : decode code 524 = .ok (.invokestatic 95, 3) := by decide +kernel
theorem d_Law_law_527 : decode code 527 = .ok (.istore 5, 2) := by decide +kernel
theorem d_Law_law_529 : decode code 529 = .ok (.aload_n 2, 1) := by decide +kernel
theorem d_Law_law_530 : decode code 530 = .ok (.aload_n 0, 1) := by decide +kernel
theorem d_Law_law_531 : decode code 531 = .ok (.iload 4, 2) := by decide +kernel
theorem d_Law_law_533 : decode code 533 = .ok (.iconst 1, 1) := by decide +kernel
theorem d_Law_law_534 : decode code 534 = .ok (.iadd, 1) := by decide +kernel
theorem d_Law_law_535 : decode code 535 = .ok (.iaload, 1) := by decide +kernel
theorem d_Law_law_536 : decode code 536 = .ok (.invokevirtual 100, 3) := by decide +kernel
theorem d_Law_law_539 : decode code 539 = .ok (.aload_n 2, 1) := by decide +kernel
theorem d_Law_law_540 : decode code 540 = .ok (.invokevirtual 101, 3) := by decide +kernel
theorem d_Law_law_543 : decode code 543 = .ok (.iload 5, 2) := by decide +kernel
theorem d_Law_law_545 : decode code 545 = .ok (.if_icmp .eq 5, 3) := by decide +kernel
theorem d_Law_law_548 : decode code 548 = .ok (.iconst 0, 1) := by decide +kernel
theorem d_Law_law_549 : decode code 549 = .ok (.ireturn, 1) := by decide +kernel
theorem d_Law_law_550 : decode code 550 = .ok (.goto 393, 3) := by decide +kernel
theorem d_Law_law_553 : decode code 553 = .ok (.aload_n 1, 1) := by decide +kernel
theorem d_Law_law_554 : decode code 554 = .ok (.aload_n 3, 1) := by decide +kernel
theorem d_Law_law_555 : decode code 555 = .ok (.invokestatic 104, 3) := by decide +kernel
theorem d_Law_law_558 : decode code 558 = .ok (.istore 5, 2) := by decide +kernel
theorem d_Law_law_560 : decode code 560 = .ok (.aload_n 2, 1) := by decide +kernel
theorem d_Law_law_561 : decode code 561 = .ok (.invokevirtual 107, 3) := by decide +kernel
theorem d_Law_law_564 : decode code 564 = .ok (.istore 6, 2) := by decide +kernel
theorem d_Law_law_566 : decode code 566 = .ok (.aload_n 2, 1) := by decide +kernel
theorem d_Law_law_567 : decode code 567 = .ok (.invokevirtual 101, 3) := by decide +kernel
theorem d_Law_law_570 : decode code 570 = .ok (.iload 5, 2) := by decide +kernel
theorem d_Law_law_572 : decode code 572 = .ok (.if_icmp .eq 5, 3) := by decide +kernel
theorem d_Law_law_575 : decode code 575 = .ok (.iconst 0, 1) := by decide +kernel
theorem d_Law_law_576 : decode code 576 = .ok (.ireturn, 1) := by decide +kernel
theorem d_Law_law_577 : decode code 577 = .ok (.iload 5, 2) := by decide +kernel
theorem d_Law_law_579 : decode code 579 = .ok (.ifCond .ne 15, 3) := by decide +kernel
theorem d_Law_law_582 : decode code 582 = .ok (.aload_n 3, 1) := by decide +kernel
theorem d_Law_law_583 : decode code 583 = .ok (.iconst 0, 1) := by decide +kernel
theorem d_Law_law_584 : decode code 584 = .ok (.laload, 1) := by decide +kernel
theorem d_Law_law_585 : decode code 585 = .ok (.iload 6, 2) := by decide +kernel
theorem d_Law_law_587 : decode code 587 = .ok (.i2l, 1) := by decide +kernel
theorem d_Law_law_588 : decode code 588 = .ok (.lcmp, 1) := by decide +kernel
theorem d_Law_law_589 : decode code 589 = .ok (.ifCond .eq 5, 3) := by decide +kernel
theorem d_Law_law_592 : decode code 592 = .ok (.iconst 0, 1) := by decide +kernel
theorem d_Law_law_593 : decode code 593 = .ok (.ireturn, 1) := by decide +kernel
theorem d_Law_law_594 : decode code 594 = .ok (.goto 349, 3) := by decide +kernel
theorem d_Law_law_597 : decode code 597 = .ok (.aload_n 1, 1) := by decide +kernel
theorem d_Law_law_598 : decode code 598 = .ok (.aload_n 0, 1) := by decide +kernel
theorem d_Law_law_599 : decode code 599 = .ok (.iload 4, 2) := by decide +kernel
theorem d_Law_law_601 : decode code 601 = .ok (.iconst 1, 1) := by decide +kernel
theorem d_Law_law_602 : decode code 602 = .ok (.iadd, 1) := by decide +kernel
theorem d_Law_law_603 : decode code 603 = .ok (.iaload, 1) := by decide +kernel
theorem d_Law_law_604 : decode code 604 = .ok (.aload_n 3, 1) := by decide +kernel
theorem d_Law_law_605 : decode code 605 = .ok (.invokestatic 108, 3) := by decide +kernel
theorem d_Law_law_608 : decode code 608 = .ok (.istore 5, 2) := by decide +kernel
theorem d_Law_law_610 : decode code 610 = .ok (.aload_n 2, 1) := by decide +kernel
theorem d_Law_law_611 : decode code 611 = .ok (.aload_n 0, 1) := by decide +kernel
theorem d_Law_law_612 : decode code 612 = .ok (.iload 4, 2) := by decide +kernel
theorem d_Law_law_614 : decode code 614 = .ok (.iconst 1, 1) := by decide +kernel
theorem d_Law_law_615 : decode code 615 = .ok (.iadd, 1) := by decide +kernel
theorem d_Law_law_616 : decode code 616 = .ok (.iaload, 1) := by decide +kernel
theorem d_Law_law_617 : decode code 617 = .ok (.invokevirtual 111, 3) := by decide +kernel
theorem d_Law_law_620 : decode code 620 = .ok (.istore 6, 2) := by decide +kernel
theorem d_Law_law_622 : decode code 622 = .ok (.aload_n 2, 1) := by decide +kernel
theorem d_Law_law_623 : decode code 623 = .ok (.invokevirtual 101, 3) := by decide +kernel
theorem d_Law_law_626 : decode code 626 = .ok (.iload 5, 2) := by decide +kernel
theorem d_Law_law_628 : decode code 628 = .ok (.if_icmp .eq 5, 3) := by decide +kernel
theorem d_Law_law_631 : decode code 631 = .ok (.iconst 0, 1) := by decide +kernel
theorem d_Law_law_632 : decode code 632 = .ok (.ireturn, 1) := by decide +kernel
theorem d_Law_law_633 : decode code 633 = .ok (.iload 5, 2) := by decide +kernel
theorem d_Law_law_635 : decode code 635 = .ok (.ifCond .ne 15, 3) := by decide +kernel
theorem d_Law_law_638 : decode code 638 = .ok (.aload_n 3, 1) := by decide +kernel
theorem d_Law_law_639 : decode code 639 = .ok (.iconst 0, 1) := by decide +kernel
theorem d_Law_law_640 : decode code 640 = .ok (.laload, 1) := by decide +kernel
theorem d_Law_law_641 : decode code 641 = .ok (.iload 6, 2) := by decide +kernel
theorem d_Law_law_643 : decode code 643 = .ok (.i2l, 1) := by decide +kernel
theorem d_Law_law_644 : decode code 644 = .ok (.lcmp, 1) := by decide +kernel
theorem d_Law_law_645 : decode code 645 = .ok (.ifCond .eq 5, 3) := by decide +kernel
theorem d_Law_law_648 : decode code 648 = .ok (.iconst 0, 1) := by decide +kernel
theorem d_Law_law_649 : decode code 649 = .ok (.ireturn, 1) := by decide +kernel
theorem d_Law_law_650 : decode code 650 = .ok (.goto 293, 3) := by decide +kernel
theorem d_Law_law_653 : decode code 653 = .ok (.aload_n 1, 1) := by decide +kernel
theorem d_Law_law_654 : decode code 654 = .ok (.aload_n 0, 1) := by decide +kernel
theorem d_Law_law_655 : decode code 655 = .ok (.iload 4, 2) := by decide +kernel
theorem d_Law_law_657 : decode code 657 = .ok (.iconst 1, 1) := by decide +kernel
theorem d_Law_law_658 : decode code 658 = .ok (.iadd, 1) := by decide +kernel
theorem d_Law_law_659 : decode code 659 = .ok (.iaload, 1) := by decide +kernel
theorem d_Law_law_660 : decode code 660 = .ok (.aload_n 3, 1) := by decide +kernel
theorem d_Law_law_661 : decode code 661 = .ok (.invokestatic 112, 3) := by decide +kernel
theorem d_Law_law_664 : decode code 664 = .ok (.istore 5, 2) := by decide +kernel
theorem d_Law_law_666 : decode code 666 = .ok (.aload_n 2, 1) := by decide +kernel
theorem d_Law_law_667 : decode code 667 = .ok (.aload_n 0, 1) := by decide +kernel
theorem d_Law_law_668 : decode code 668 = .ok (.iload 4, 2) := by decide +kernel
theorem d_Law_law_670 : decode code 670 = .ok (.iconst 1, 1) := by decide +kernel
theorem d_Law_law_671 : decode code 671 = .ok (.iadd, 1) := by decide +kernel
theorem d_Law_law_672 : decode code 672 = .ok (.iaload, 1) := by decide +kernel
theorem d_Law_law_673 : decode code 673 = .ok (.invokevirtual 114, 3) := by decide +kernel
theorem d_Law_law_676 : decode code 676 = .ok (.istore 6, 2) := by decide +kernel
theorem d_Law_law_678 : decode code 678 = .ok (.aload_n 2, 1) := by decide +kernel
theorem d_Law_law_679 : decode code 679 = .ok (.invokevirtual 101, 3) := by decide +kernel
theorem d_Law_law_682 : decode code 682 = .ok (.iload 5, 2) := by decide +kernel
theorem d_Law_law_684 : decode code 684 = .ok (.if_icmp .eq 5, 3) := by decide +kernel
theorem d_Law_law_687 : decode code 687 = .ok (.iconst 0, 1) := by decide +kernel
theorem d_Law_law_688 : decode code 688 = .ok (.ireturn, 1) := by decide +kernel
theorem d_Law_law_689 : decode code 689 = .ok (.iload 5, 2) := by decide +kernel
theorem d_Law_law_691 : decode code 691 = .ok (.ifCond .ne 15, 3) := by decide +kernel
theorem d_Law_law_694 : decode code 694 = .ok (.aload_n 3, 1) := by decide +kernel
theorem d_Law_law_695 : decode code 695 = .ok (.iconst 0, 1) := by decide +kernel
theorem d_Law_law_696 : decode code 696 = .ok (.laload, 1) := by decide +kernel
theorem d_Law_law_697 : decode code 697 = .ok (.iload 6, 2) := by decide +kernel
theorem d_Law_law_699 : decode code 699 = .ok (.i2l, 1) := by decide +kernel
theorem d_Law_law_700 : decode code 700 = .ok (.lcmp, 1) := by decide +kernel
theorem d_Law_law_701 : decode code 701 = .ok (.ifCond .eq 5, 3) := by decide +kernel
theorem d_Law_law_704 : decode code 704 = .ok (.iconst 0, 1) := by decide +kernel
theorem d_Law_law_705 : decode code 705 = .ok (.ireturn, 1) := by decide +kernel
theorem d_Law_law_706 : decode code 706 = .ok (.goto 237, 3) := by decide +kernel
theorem d_Law_law_709 : decode code 709 = .ok (.aload_n 1, 1) := by decide +kernel
theorem d_Law_law_710 : decode code 710 = .ok (.aload_n 0, 1) := by decide +kernel
theorem d_Law_law_711 : decode code 711 = .ok (.iload 4, 2) := by decide +kernel
theorem d_Law_law_713 : decode code 713 = .ok (.iconst 1, 1) := by decide +kernel
theorem d_Law_law_714 : decode code 714 = .ok (.iadd, 1) := by decide +kernel
theorem d_Law_law_715 : decode code 715 = .ok (.iaload, 1) := by decide +kernel
theorem d_Law_law_716 : decode code 716 = .ok (.aload_n 0, 1) := by decide +kernel
theorem d_Law_law_717 : decode code 717 = .ok (.iload 4, 2) := by decide +kernel
theorem d_Law_law_719 : decode code 719 = .ok (.iconst 2, 1) := by decide +kernel
theorem d_Law_law_720 : decode code 720 = .ok (.iadd, 1) := by decide +kernel
theorem d_Law_law_721 : decode code 721 = .ok (.iaload, 1) := by decide +kernel
theorem d_Law_law_722 : decode code 722 = .ok (.aload_n 0, 1) := by decide +kernel
theorem d_Law_law_723 : decode code 723 = .ok (.iload 4, 2) := by decide +kernel
theorem d_Law_law_725 : decode code 725 = .ok (.iconst 3, 1) := by decide +kernel
theorem d_Law_law_726 : decode code 726 = .ok (.iadd, 1) := by decide +kernel
theorem d_Law_law_727 : decode code 727 = .ok (.iaload, 1) := by decide +kernel
theorem d_Law_law_728 : decode code 728 = .ok (.ifCond .eq 7, 3) := by decide +kernel
theorem d_Law_law_731 : decode code 731 = .ok (.iconst 1, 1) := by decide +kernel
theorem d_Law_law_732 : decode code 732 = .ok (.goto 4, 3) := by decide +kernel
theorem d_Law_law_735 : decode code 735 = .ok (.iconst 0, 1) := by decide +kernel
theorem d_Law_law_736 : decode code 736 = .ok (.aload_n 3, 1) := by decide +kernel
theorem d_Law_law_737 : decode code 737 = .ok (.invokestatic 115, 3) := by decide +kernel
theorem d_Law_law_740 : decode code 740 = .ok (.istore 5, 2) := by decide +kernel
theorem d_Law_law_742 : decode code 742 = .ok (.aload_n 2, 1) := by decide +kernel
theorem d_Law_law_743 : decode code 743 = .ok (.aload_n 0, 1) := by decide +kernel
theorem d_Law_law_744 : decode code 744 = .ok (.iload 4, 2) := by decide +kernel
theorem d_Law_law_746 : decode code 746 = .ok (.iconst 1, 1) := by decide +kernel
theorem d_Law_law_747 : decode code 747 = .ok (.iadd, 1) := by decide +kernel
theorem d_Law_law_748 : decode code 748 = .ok (.iaload, 1) := by decide +kernel
theorem d_Law_law_749 : decode code 749 = .ok (.aload_n 0, 1) := by decide +kernel
theorem d_Law_law_750 : decode code 750 = .ok (.iload 4, 2) := by decide +kernel
theorem d_Law_law_752 : decode code 752 = .ok (.iconst 2, 1) := by decide +kernel
theorem d_Law_law_753 : decode code 753 = .ok (.iadd, 1) := by decide +kernel
theorem d_Law_law_754 : decode code 754 = .ok (.iaload, 1) := by decide +kernel
theorem d_Law_law_755 : decode code 755 = .ok (.aload_n 0, 1) := by decide +kernel
theorem d_Law_law_756 : decode code 756 = .ok (.iload 4, 2) := by decide +kernel
theorem d_Law_law_758 : decode code 758 = .ok (.iconst 3, 1) := by decide +kernel
theorem d_Law_law_759 : decode code 759 = .ok (.iadd, 1) := by decide +kernel
theorem d_Law_law_760 : decode code 760 = .ok (.iaload, 1) := by decide +kernel
theorem d_Law_law_761 : decode code 761 = .ok (.ifCond .eq 7, 3) := by decide +kernel
theorem d_Law_law_764 : decode code 764 = .ok (.iconst 1, 1) := by decide +kernel
theorem d_Law_law_765 : decode code 765 = .ok (.goto 4, 3) := by decide +kernel
theorem d_Law_law_768 : decode code 768 = .ok (.iconst 0, 1) := by decide +kernel
theorem d_Law_law_769 : decode code 769 = .ok (.invokevirtual 118, 3) := by decide +kernel
theorem d_Law_law_772 : decode code 772 = .ok (.istore 6, 2) := by decide +kernel
theorem d_Law_law_774 : decode code 774 = .ok (.aload_n 2, 1) := by decide +kernel
theorem d_Law_law_775 : decode code 775 = .ok (.invokevirtual 101, 3) := by decide +kernel
theorem d_Law_law_778 : decode code 778 = .ok (.iload 5, 2) := by decide +kernel
theorem d_Law_law_780 : decode code 780 = .ok (.if_icmp .eq 5, 3) := by decide +kernel
theorem d_Law_law_783 : decode code 783 = .ok (.iconst 0, 1) := by decide +kernel
theorem d_Law_law_784 : decode code 784 = .ok (.ireturn, 1) := by decide +kernel
theorem d_Law_law_785 : decode code 785 = .ok (.iload 5, 2) := by decide +kernel
theorem d_Law_law_787 : decode code 787 = .ok (.ifCond .ne 22, 3) := by decide +kernel
theorem d_Law_law_790 : decode code 790 = .ok (.aload_n 3, 1) := by decide +kernel
theorem d_Law_law_791 : decode code 791 = .ok (.iconst 0, 1) := by decide +kernel
theorem d_Law_law_792 : decode code 792 = .ok (.laload, 1) := by decide +kernel
theorem d_Law_law_793 : decode code 793 = .ok (.iload 6, 2) := by decide +kernel
theorem d_Law_law_795 : decode code 795 = .ok (.ifCond .eq 7, 3) := by decide +kernel
theorem d_Law_law_798 : decode code 798 = .ok (.lconst 1, 1) := by decide +kernel
theorem d_Law_law_799 : decode code 799 = .ok (.goto 4, 3) := by decide +kernel
theorem d_Law_law_802 : decode code 802 = .ok (.lconst 0, 1) := by decide +kernel
theorem d_Law_law_803 : decode code 803 = .ok (.lcmp, 1) := by decide +kernel
theorem d_Law_law_804 : decode code 804 = .ok (.ifCond .eq 5, 3) := by decide +kernel
theorem d_Law_law_807 : decode code 807 = .ok (.iconst 0, 1) := by decide +kernel
theorem d_Law_law_808 : decode code 808 = .ok (.ireturn, 1) := by decide +kernel
theorem d_Law_law_809 : decode code 809 = .ok (.goto 134, 3) := by decide +kernel
theorem d_Law_law_812 : decode code 812 = .ok (.aload_n 1, 1) := by decide +kernel
theorem d_Law_law_813 : decode code 813 = .ok (.aload_n 0, 1) := by decide +kernel
theorem d_Law_law_814 : decode code 814 = .ok (.iload 4, 2) := by decide +kernel
theorem d_Law_law_816 : decode code 816 = .ok (.iconst 1, 1) := by decide +kernel
theorem d_Law_law_817 : decode code 817 = .ok (.iadd, 1) := by decide +kernel
theorem d_Law_law_818 : decode code 818 = .ok (.iaload, 1) := by decide +kernel
theorem d_Law_law_819 : decode code 819 = .ok (.aload_n 3, 1) := by decide +kernel
theorem d_Law_law_820 : decode code 820 = .ok (.invokestatic 119, 3) := by decide +kernel
theorem d_Law_law_823 : decode code 823 = .ok (.istore 5, 2) := by decide +kernel
theorem d_Law_law_825 : decode code 825 = .ok (.aload_n 2, 1) := by decide +kernel
theorem d_Law_law_826 : decode code 826 = .ok (.aload_n 0, 1) := by decide +kernel
theorem d_Law_law_827 : decode code 827 = .ok (.iload 4, 2) := by decide +kernel
theorem d_Law_law_829 : decode code 829 = .ok (.iconst 1, 1) := by decide +kernel
theorem d_Law_law_830 : decode code 830 = .ok (.iadd, 1) := by decide +kernel
theorem d_Law_law_831 : decode code 831 = .ok (.iaload, 1) := by decide +kernel
theorem d_Law_law_832 : decode code 832 = .ok (.invokevirtual 121, 3) := by decide +kernel
theorem d_Law_law_835 : decode code 835 = .ok (.istore 6, 2) := by decide +kernel
theorem d_Law_law_837 : decode code 837 = .ok (.aload_n 2, 1) := by decide +kernel
theorem d_Law_law_838 : decode code 838 = .ok (.invokevirtual 101, 3) := by decide +kernel
theorem d_Law_law_841 : decode code 841 = .ok (.iload 5, 2) := by decide +kernel
theorem d_Law_law_843 : decode code 843 = .ok (.if_icmp .eq 5, 3) := by decide +kernel
theorem d_Law_law_846 : decode code 846 = .ok (.iconst 0, 1) := by decide +kernel
theorem d_Law_law_847 : decode code 847 = .ok (.ireturn, 1) := by decide +kernel
theorem d_Law_law_848 : decode code 848 = .ok (.iload 5, 2) := by decide +kernel
theorem d_Law_law_850 : decode code 850 = .ok (.ifCond .ne 15, 3) := by decide +kernel
theorem d_Law_law_853 : decode code 853 = .ok (.aload_n 3, 1) := by decide +kernel
theorem d_Law_law_854 : decode code 854 = .ok (.iconst 0, 1) := by decide +kernel
theorem d_Law_law_855 : decode code 855 = .ok (.laload, 1) := by decide +kernel
theorem d_Law_law_856 : decode code 856 = .ok (.iload 6, 2) := by decide +kernel
theorem d_Law_law_858 : decode code 858 = .ok (.i2l, 1) := by decide +kernel
theorem d_Law_law_859 : decode code 859 = .ok (.lcmp, 1) := by decide +kernel
theorem d_Law_law_860 : decode code 860 = .ok (.ifCond .eq 5, 3) := by decide +kernel
theorem d_Law_law_863 : decode code 863 = .ok (.iconst 0, 1) := by decide +kernel
theorem d_Law_law_864 : decode code 864 = .ok (.ireturn, 1) := by decide +kernel
theorem d_Law_law_865 : decode code 865 = .ok (.goto 78, 3) := by decide +kernel
theorem d_Law_law_868 : decode code 868 = .ok (.aload_n 1, 1) := by decide +kernel
theorem d_Law_law_869 : decode code 869 = .ok (.aload_n 0, 1) := by decide +kernel
theorem d_Law_law_870 : decode code 870 = .ok (.iload 4, 2) := by decide +kernel
theorem d_Law_law_872 : decode code 872 = .ok (.iconst 1, 1) := by decide +kernel
theorem d_Law_law_873 : decode code 873 = .ok (.iadd, 1) := by decide +kernel
theorem d_Law_law_874 : decode code 874 = .ok (.iaload, 1) := by decide +kernel
theorem d_Law_law_875 : decode code 875 = .ok (.aload_n 0, 1) := by decide +kernel
theorem d_Law_law_876 : decode code 876 = .ok (.iload 4, 2) := by decide +kernel
theorem d_Law_law_878 : decode code 878 = .ok (.iconst 2, 1) := by decide +kernel
theorem d_Law_law_879 : decode code 879 = .ok (.iadd, 1) := by decide +kernel
theorem d_Law_law_880 : decode code 880 = .ok (.iaload, 1) := by decide +kernel
theorem d_Law_law_881 : decode code 881 = .ok (.invokevirtual 122, 3) := by decide +kernel
theorem d_Law_law_884 : decode code 884 = .ok (.aload_n 2, 1) := by decide +kernel
theorem d_Law_law_885 : decode code 885 = .ok (.aload_n 0, 1) := by decide +kernel
theorem d_Law_law_886 : decode code 886 = .ok (.iload 4, 2) := by decide +kernel
theorem d_Law_law_888 : decode code 888 = .ok (.iconst 1, 1) := by decide +kernel
theorem d_Law_law_889 : decode code 889 = .ok (.iadd, 1) := by decide +kernel
theorem d_Law_law_890 : decode code 890 = .ok (.iaload, 1) := by decide +kernel
theorem d_Law_law_891 : decode code 891 = .ok (.aload_n 0, 1) := by decide +kernel
theorem d_Law_law_892 : decode code 892 = .ok (.iload 4, 2) := by decide +kernel
theorem d_Law_law_894 : decode code 894 = .ok (.iconst 2, 1) := by decide +kernel
theorem d_Law_law_895 : decode code 895 = .ok (.iadd, 1) := by decide +kernel
theorem d_Law_law_896 : decode code 896 = .ok (.iaload, 1) := by decide +kernel
theorem d_Law_law_897 : decode code 897 = .ok (.invokevirtual 125, 3) := by decide +kernel
theorem d_Law_law_900 : decode code 900 = .ok (.if_icmp .eq 43, 3) := by decide +kernel
theorem d_Law_law_903 : decode code 903 = .ok (.iconst 0, 1) := by decide +kernel
theorem d_Law_law_904 : decode code 904 = .ok (.ireturn, 1) := by decide +kernel
theorem d_Law_law_905 : decode code 905 = .ok (.aload_n 1, 1) := by decide +kernel
theorem d_Law_law_906 : decode code 906 = .ok (.aload_n 0, 1) := by decide +kernel
theorem d_Law_law_907 : decode code 907 = .ok (.iload 4, 2) := by decide +kernel
theorem d_Law_law_909 : decode code 909 = .ok (.iconst 1, 1) := by decide +kernel
theorem d_Law_law_910 : decode code 910 = .ok (.iadd, 1) := by decide +kernel
theorem d_Law_law_911 : decode code 911 = .ok (.iaload, 1) := by decide +kernel
theorem d_Law_law_912 : decode code 912 = .ok (.invokevirtual 126, 3) := by decide +kernel
theorem d_Law_law_915 : decode code 915 = .ok (.aload_n 2, 1) := by decide +kernel
theorem d_Law_law_916 : decode code 916 = .ok (.aload_n 0, 1) := by decide +kernel
theorem d_Law_law_917 : decode code 917 = .ok (.iload 4, 2) := by decide +kernel
theorem d_Law_law_919 : decode code 919 = .ok (.iconst 1, 1) := by decide +kernel
theorem d_Law_law_920 : decode code 920 = .ok (.iadd, 1) := by decide +kernel
theorem d_Law_law_921 : decode code 921 = .ok (.iaload, 1) := by decide +kernel
theorem d_Law_law_922 : decode code 922 = .ok (.invokevirtual 129, 3) := by decide +kernel
theorem d_Law_law_925 : decode code 925 = .ok (.if_icmp .eq 18, 3) := by decide +kernel
theorem d_Law_law_928 : decode code 928 = .ok (.iconst 0, 1) := by decide +kernel
theorem d_Law_law_929 : decode code 929 = .ok (.ireturn, 1) := by decide +kernel
theorem d_Law_law_930 : decode code 930 = .ok (.aload_n 1, 1) := by decide +kernel
theorem d_Law_law_931 : decode code 931 = .ok (.invokevirtual 130, 3) := by decide +kernel
theorem d_Law_law_934 : decode code 934 = .ok (.aload_n 2, 1) := by decide +kernel
theorem d_Law_law_935 : decode code 935 = .ok (.invokevirtual 133, 3) := by decide +kernel
theorem d_Law_law_938 : decode code 938 = .ok (.if_icmp .eq 5, 3) := by decide +kernel
theorem d_Law_law_941 : decode code 941 = .ok (.iconst 0, 1) := by decide +kernel
theorem d_Law_law_942 : decode code 942 = .ok (.ireturn, 1) := by decide +kernel
theorem d_Law_law_943 : decode code 943 = .ok (.iinc 4 4, 3) := by decide +kernel
theorem d_Law_law_946 : decode code 946 = .ok (.goto (-923), 3) := by decide +kernel
theorem d_Law_law_949 : decode code 949 = .ok (.iconst 1, 1) := by decide +kernel
theorem d_Law_law_950 : decode code 950 = .ok (.ireturn, 1) := by decide +kernel
