theorem dX11_next_166 : decode cX11_next 166 = .ok (.putfield 157, 3) := by decide +kernel
theorem dX11_next_169 : decode cX11_next 169 = .ok (.aload_n 0, 1) := by decide +kernel
theorem dX11_next_170 : decode cX11_next 170 = .ok (.dup, 1) := by decide +kernel
theorem dX11_next_171 : decode cX11_next 171 = .ok (.getfield 144, 3) := by decide +kernel
theorem dX11_next_174 : decode cX11_next 174 = .ok (.iconst 1, 1) := by decide +kernel
theorem dX11_next_175 : decode cX11_next 175 = .ok (.iadd, 1) := by decide +kernel
theorem dX11_next_176 : decode cX11_next 176 = .ok (.putfield 144, 3) := by decide +kernel
theorem dX11_next_179 : decode cX11_next 179 = .ok (.iinc 1 1, 3) := by decide +kernel
theorem dX11_next_182 : decode cX11_next 182 = .ok (.goto (-80), 3) := by decide +kernel
theorem dX11_next_185 : decode cX11_next 185 = .ok (.goto 122, 3) := by decide +kernel
theorem dX11_next_188 : decode cX11_next 188 = .ok (.aload_n 0, 1) := by decide +kernel
theorem dX11_next_189 : decode cX11_next 189 = .ok (.aload_n 0, 1) := by decide +kernel
theorem dX11_next_190 : decode cX11_next 190 = .ok (.getfield 144, 3) := by decide +kernel
theorem dX11_next_193 : decode cX11_next 193 = .ok (.bipush 48, 2) := by decide +kernel
theorem dX11_next_195 : decode cX11_next 195 = .ok (.bipush 57, 2) := by decide +kernel
theorem dX11_next_197 : decode cX11_next 197 = .ok (.invokevirtual 147, 3) := by decide +kernel
theorem dX11_next_200 : decode cX11_next 200 = .ok (.ifCond .eq 74, 3) := by decide +kernel
theorem dX11_next_203 : decode cX11_next 203 = .ok (.aload_n 0, 1) := by decide +kernel
theorem dX11_next_204 : decode cX11_next 204 = .ok (.iconst 2, 1) := by decide +kernel
theorem dX11_next_205 : decode cX11_next 205 = .ok (.putfield 161, 3) := by decide +kernel
theorem dX11_next_208 : decode cX11_next 208 = .ok (.aload_n 0, 1) := by decide +kernel
theorem dX11_next_209 : decode cX11_next 209 = .ok (.aload_n 0, 1) := by decide +kernel
theorem dX11_next_210 : decode cX11_next 210 = .ok (.getfield 144, 3) := by decide +kernel
theorem dX11_next_213 : decode cX11_next 213 = .ok (.bipush 48, 2) := by decide +kernel
theorem dX11_next_215 : decode cX11_next 215 = .ok (.bipush 57, 2) := by decide +kernel
theorem dX11_next_217 : decode cX11_next 217 = .ok (.invokevirtual 147, 3) := by decide +kernel
theorem dX11_next_220 : decode cX11_next 220 = .ok (.ifCond .eq 87, 3) := by decide +kernel
theorem dX11_next_223 : decode cX11_next 223 = .ok (.aload_n 0, 1) := by decide +kernel
theorem dX11_next_224 : decode cX11_next 224 = .ok (.aload_n 0, 1) := by decide +kernel
theorem dX11_next_225 : decode cX11_next 225 = .ok (.getfield 154, 3) := by decide +kernel
theorem dX11_next_228 : decode cX11_next 228 = .ok (.ldc 170, 2) := by decide +kernel
theorem dX11_next_230 : decode cX11_next 230 = .ok (.if_icmp .le 8, 3) := by decide +kernel
theorem dX11_next_233 : decode cX11_next 233 = .ok (.ldc 171, 2) := by decide +kernel
theorem dX11_next_235 : decode cX11_next 235 = .ok (.goto 23, 3) := by decide +kernel
theorem dX11_next_238 : decode cX11_next 238 = .ok (.bipush 10, 2) := by decide +kernel
theorem dX11_next_240 : decode cX11_next 240 = .ok (.aload_n 0, 1) := by decide +kernel
theorem dX11_next_241 : decode cX11_next 241 = .ok (.getfield 154, 3) := by decide +kernel
theorem dX11_next_244 : decode cX11_next 244 = .ok (.imul, 1) := by decide +kernel
theorem dX11_next_245 : decode cX11_next 245 = .ok (.aload_n 0, 1) := by decide +kernel
theorem dX11_next_246 : decode cX11_next 246 = .ok (.getfield 23, 3) := by decide +kernel
theorem dX11_next_249 : decode cX11_next 249 = .ok (.aload_n 0, 1) := by decide +kernel
theorem dX11_next_250 : decode cX11_next 250 = .ok (.getfield 144, 3) := by decide +kernel
theorem dX11_next_253 : decode cX11_next 253 = .ok (.baload, 1) := by decide +kernel
theorem dX11_next_254 : decode cX11_next 254 = .ok (.iadd, 1) := by decide +kernel
theorem dX11_next_255 : decode cX11_next 255 = .ok (.bipush 48, 2) := by decide +kernel
theorem dX11_next_257 : decode cX11_next 257 = .ok (.isub, 1) := by decide +kernel
theorem dX11_next_258 : decode cX11_next 258 = .ok (.putfield 154, 3) := by decide +kernel
theorem dX11_next_261 : decode cX11_next 261 = .ok (.aload_n 0, 1) := by decide +kernel
theorem dX11_next_262 : decode cX11_next 262 = .ok (.dup, 1) := by decide +kernel
theorem dX11_next_263 : decode cX11_next 263 = .ok (.getfield 144, 3) := by decide +kernel
theorem dX11_next_266 : decode cX11_next 266 = .ok (.iconst 1, 1) := by decide +kernel
theorem dX11_next_267 : decode cX11_next 267 = .ok (.iadd, 1) := by decide +kernel
theorem dX11_next_268 : decode cX11_next 268 = .ok (.putfield 144, 3) := by decide +kernel
theorem dX11_next_271 : decode cX11_next 271 = .ok (.goto (-63), 3) := by decide +kernel
theorem dX11_next_274 : decode cX11_next 274 = .ok (.aload_n 0, 1) := by decide +kernel
theorem dX11_next_275 : decode cX11_next 275 = .ok (.aload_n 0, 1) := by decide +kernel
theorem dX11_next_276 : decode cX11_next 276 = .ok (.getfield 23, 3) := by decide +kernel
theorem dX11_next_279 : decode cX11_next 279 = .ok (.aload_n 0, 1) := by decide +kernel
theorem dX11_next_280 : decode cX11_next 280 = .ok (.getfield 144, 3) := by decide +kernel
theorem dX11_next_283 : decode cX11_next 283 = .ok (.baload, 1) := by decide +kernel
theorem dX11_next_284 : decode cX11_next 284 = .ok (.bipush 59, 2) := by decide +kernel
theorem dX11_next_286 : decode cX11_next 286 = .ok (.if_icmp .ne 7, 3) := by decide +kernel
theorem dX11_next_289 : decode cX11_next 289 = .ok (.iconst 3, 1) := by decide +kernel
theorem dX11_next_290 : decode cX11_next 290 = .ok (.goto 4, 3) := by decide +kernel
theorem dX11_next_293 : decode cX11_next 293 = .ok (.iconst 4, 1) := by decide +kernel
theorem dX11_next_294 : decode cX11_next 294 = .ok (.putfield 161, 3) := by decide +kernel
theorem dX11_next_297 : decode cX11_next 297 = .ok (.aload_n 0, 1) := by decide +kernel
theorem dX11_next_298 : decode cX11_next 298 = .ok (.dup, 1) := by decide +kernel
theorem dX11_next_299 : decode cX11_next 299 = .ok (.getfield 144, 3) := by decide +kernel
theorem dX11_next_302 : decode cX11_next 302 = .ok (.iconst 1, 1) := by decide +kernel
theorem dX11_next_303 : decode cX11_next 303 = .ok (.iadd, 1) := by decide +kernel
theorem dX11_next_304 : decode cX11_next 304 = .ok (.putfield 144, 3) := by decide +kernel
theorem dX11_next_307 : decode cX11_next 307 = .ok (.return_, 1) := by decide +kernel
theorem dX11_isGood_0 : decode cX11_isGood 0 = .ok (.aload_n 0, 1) := by decide +kernel
theorem dX11_isGood_1 : decode cX11_isGood 1 = .ok (.getfield 172, 3) := by decide +kernel
theorem dX11_isGood_4 : decode cX11_isGood 4 = .ok (.ifCond .ne 7, 3) := by decide +kernel
theorem dX11_isGood_7 : decode cX11_isGood 7 = .ok (.iconst 1, 1) := by decide +kernel
theorem dX11_isGood_8 : decode cX11_isGood 8 = .ok (.goto 4, 3) := by decide +kernel
theorem dX11_isGood_11 : decode cX11_isGood 11 = .ok (.iconst 0, 1) := by decide +kernel
theorem dX11_isGood_12 : decode cX11_isGood 12 = .ok (.ireturn, 1) := by decide +kernel
set_option maxRecDepth 20000 in
theorem ggX11_begins_X11_next : GoodIn wsX11_begins wsX11_next := goodIn_r _ [8, 3, 9, 10, 11, 12, 13, 14, 15, 16, 17, 18, 19, 20, 21, 22, 7, 23, 24, 25, 26, 27, 28, 29, 30, 31, 32, 33, 34, 35, 36, 37, 38, 39, 40, 41, 42, 43, 44, 45, 46, 47, 48, 49, 50, 51, 52, 53, 54, 55, 56, 57, 58, 59, 60, 61, 62, 63, 64, 65, 66, 67, 68, 69, 70, 71, 72, 73, 74, 75, 76, 77, 78, 79, 80, 81] (by decide +kernel) (by decide +kernel)
set_option maxRecDepth 20000 in
theorem gX11_begins_X11_next : GoodIn wsX11_begins (wsV RX11 182 RX11 yX11_next wsX11_next) := goodIn_app (goodIn_of _ (by decide +kernel)) ggX11_begins_X11_next
theorem dX11_begins_0 : decode cX11_begins 0 = .ok (.aload_n 0, 1) := by decide +kernel
theorem dX11_begins_1 : decode cX11_begins 1 = .ok (.iconst 0, 1) := by decide +kernel
theorem dX11_begins_2 : decode cX11_begins 2 = .ok (.putfield 172, 3) := by decide +kernel
theorem dX11_begins_5 : decode cX11_begins 5 = .ok (.aload_n 0, 1) := by decide +kernel
theorem dX11_begins_6 : decode cX11_begins 6 = .ok (.iconst (-1), 1) := by decide +kernel
theorem dX11_begins_7 : decode cX11_begins 7 = .ok (.putfield 175, 3) := by decide +kernel
theorem dX11_begins_10 : decode cX11_begins 10 = .ok (.aload_n 0, 1) := by decide +kernel
theorem dX11_begins_11 : decode cX11_begins 11 = .ok (.iconst 0, 1) := by decide +kernel
theorem dX11_begins_12 : decode cX11_begins 12 = .ok (.putfield 144, 3) := by decide +kernel
theorem dX11_begins_15 : decode cX11_begins 15 = .ok (.aload_n 0, 1) := by decide +kernel
theorem dX11_begins_16 : decode cX11_begins 16 = .ok (.invokevirtual 182, 3) := by decide +kernel
theorem dX11_begins_19 : decode cX11_begins 19 = .ok (.return_, 1) := by decide +kernel
theorem dX11_isOver_0 : decode cX11_isOver 0 = .ok (.aload_n 0, 1) := by decide +kernel
theorem dX11_isOver_1 : decode cX11_isOver 1 = .ok (.iconst 0, 1) := by decide +kernel
theorem dX11_isOver_2 : decode cX11_isOver 2 = .ok (.putfield 137, 3) := by decide +kernel
theorem dX11_isOver_5 : decode cX11_isOver 5 = .ok (.aload_n 0, 1) := by decide +kernel
theorem dX11_isOver_6 : decode cX11_isOver 6 = .ok (.aload_n 0, 1) := by decide +kernel
theorem dX11_isOver_7 : decode cX11_isOver 7 = .ok (.getfield 172, 3) := by decide +kernel
theorem dX11_isOver_10 : decode cX11_isOver 10 = .ok (.putfield 199, 3) := by decide +kernel
theorem dX11_isOver_13 : decode cX11_isOver 13 = .ok (.aload_n 0, 1) := by decide +kernel
theorem dX11_isOver_14 : decode cX11_isOver 14 = .ok (.aload_n 0, 1) := by decide +kernel
theorem dX11_isOver_15 : decode cX11_isOver 15 = .ok (.getfield 172, 3) := by decide +kernel
theorem dX11_isOver_18 : decode cX11_isOver 18 = .ok (.ifCond .ne 7, 3) := by decide +kernel
theorem dX11_isOver_21 : decode cX11_isOver 21 = .ok (.iconst (-1), 1) := by decide +kernel
theorem dX11_isOver_22 : decode cX11_isOver 22 = .ok (.goto 7, 3) := by decide +kernel
theorem dX11_isOver_25 : decode cX11_isOver 25 = .ok (.aload_n 0, 1) := by decide +kernel
theorem dX11_isOver_26 : decode cX11_isOver 26 = .ok (.getfield 175, 3) := by decide +kernel
theorem dX11_isOver_29 : decode cX11_isOver 29 = .ok (.putfield 27, 3) := by decide +kernel
theorem dX11_isOver_32 : decode cX11_isOver 32 = .ok (.return_, 1) := by decide +kernel
theorem dX11_fault_0 : decode cX11_fault 0 = .ok (.aload_n 0, 1) := by decide +kernel
theorem dX11_fault_1 : decode cX11_fault 1 = .ok (.iconst 0, 1) := by decide +kernel
theorem dX11_fault_2 : decode cX11_fault 2 = .ok (.putfield 120, 3) := by decide +kernel
theorem dX11_fault_5 : decode cX11_fault 5 = .ok (.iload_n 1, 1) := by decide +kernel
theorem dX11_fault_6 : decode cX11_fault 6 = .ok (.ifCond .ne 10, 3) := by decide +kernel
theorem dX11_fault_9 : decode cX11_fault 9 = .ok (.aload_n 0, 1) := by decide +kernel
theorem dX11_fault_10 : decode cX11_fault 10 = .ok (.getfield 199, 3) := by decide +kernel
theorem dX11_fault_13 : decode cX11_fault 13 = .ok (.goto 16, 3) := by decide +kernel
theorem dX11_fault_16 : decode cX11_fault 16 = .ok (.iload_n 1, 1) := by decide +kernel
theorem dX11_fault_17 : decode cX11_fault 17 = .ok (.iconst 1, 1) := by decide +kernel
theorem dX11_fault_18 : decode cX11_fault 18 = .ok (.if_icmp .ne 10, 3) := by decide +kernel
theorem dX11_fault_21 : decode cX11_fault 21 = .ok (.aload_n 0, 1) := by decide +kernel
theorem dX11_fault_22 : decode cX11_fault 22 = .ok (.getfield 27, 3) := by decide +kernel
theorem dX11_fault_25 : decode cX11_fault 25 = .ok (.goto 4, 3) := by decide +kernel
theorem dX11_fault_28 : decode cX11_fault 28 = .ok (.iconst (-1), 1) := by decide +kernel
theorem dX11_fault_29 : decode cX11_fault 29 = .ok (.ireturn, 1) := by decide +kernel
theorem dX11_clears_0 : decode cX11_clears 0 = .ok (.aload_n 0, 1) := by decide +kernel
theorem dX11_clears_1 : decode cX11_clears 1 = .ok (.getfield 31, 3) := by decide +kernel
theorem dX11_clears_4 : decode cX11_clears 4 = .ok (.iconst 4, 1) := by decide +kernel
theorem dX11_clears_5 : decode cX11_clears 5 = .ok (.iconst 0, 1) := by decide +kernel
theorem dX11_clears_6 : decode cX11_clears 6 = .ok (.iastore, 1) := by decide +kernel
theorem dX11_clears_7 : decode cX11_clears 7 = .ok (.aload_n 0, 1) := by decide +kernel
theorem dX11_clears_8 : decode cX11_clears 8 = .ok (.getfield 34, 3) := by decide +kernel
theorem dX11_clears_11 : decode cX11_clears 11 = .ok (.iconst 4, 1) := by decide +kernel
theorem dX11_clears_12 : decode cX11_clears 12 = .ok (.iconst 0, 1) := by decide +kernel
theorem dX11_clears_13 : decode cX11_clears 13 = .ok (.iastore, 1) := by decide +kernel
theorem dX11_clears_14 : decode cX11_clears 14 = .ok (.aload_n 0, 1) := by decide +kernel
theorem dX11_clears_15 : decode cX11_clears 15 = .ok (.getfield 37, 3) := by decide +kernel
theorem dX11_clears_18 : decode cX11_clears 18 = .ok (.iconst 4, 1) := by decide +kernel
theorem dX11_clears_19 : decode cX11_clears 19 = .ok (.iconst 0, 1) := by decide +kernel
theorem dX11_clears_20 : decode cX11_clears 20 = .ok (.iastore, 1) := by decide +kernel
theorem dX11_clears_21 : decode cX11_clears 21 = .ok (.iconst 0, 1) := by decide +kernel
theorem dX11_clears_22 : decode cX11_clears 22 = .ok (.istore_n 1, 1) := by decide +kernel
theorem dX11_clears_23 : decode cX11_clears 23 = .ok (.iload_n 1, 1) := by decide +kernel
theorem dX11_clears_24 : decode cX11_clears 24 = .ok (.bipush 7, 2) := by decide +kernel
theorem dX11_clears_26 : decode cX11_clears 26 = .ok (.if_icmp .ge 19, 3) := by decide +kernel
theorem dX11_clears_29 : decode cX11_clears 29 = .ok (.aload_n 0, 1) := by decide +kernel
theorem dX11_clears_30 : decode cX11_clears 30 = .ok (.getfield 40, 3) := by decide +kernel
theorem dX11_clears_33 : decode cX11_clears 33 = .ok (.bipush 28, 2) := by decide +kernel
theorem dX11_clears_35 : decode cX11_clears 35 = .ok (.iload_n 1, 1) := by decide +kernel
theorem dX11_clears_36 : decode cX11_clears 36 = .ok (.iadd, 1) := by decide +kernel
theorem dX11_clears_37 : decode cX11_clears 37 = .ok (.iconst 0, 1) := by decide +kernel
theorem dX11_clears_38 : decode cX11_clears 38 = .ok (.iastore, 1) := by decide +kernel
theorem dX11_clears_39 : decode cX11_clears 39 = .ok (.iinc 1 1, 3) := by decide +kernel
theorem dX11_clears_42 : decode cX11_clears 42 = .ok (.goto (-19), 3) := by decide +kernel
theorem dX11_clears_45 : decode cX11_clears 45 = .ok (.return_, 1) := by decide +kernel
set_option maxRecDepth 20000 in
theorem ggX11_line_X11_clears : GoodIn wsX11_line wsX11_clears := goodIn_r _ [12, 3, 5, 13, 14, 136, 137, 138, 139, 140, 141, 142, 143, 144, 145, 146, 147, 148, 149, 150, 151, 152, 153, 154, 155, 156, 157, 158, 159, 160, 161, 162, 163, 164, 165, 166, 167, 168, 169, 170, 171, 172, 173, 174, 175, 176, 177, 178, 179, 180, 181, 182, 183, 184, 185, 186, 187, 188, 189, 190, 191, 192, 193] (by decide +kernel) (by decide +kernel)
set_option maxRecDepth 20000 in
theorem gX11_line_X11_clears : GoodIn wsX11_line (wsV RX11 265 RX11 yX11_clears wsX11_clears) := goodIn_app (goodIn_of _ (by decide +kernel)) ggX11_line_X11_clears
set_option maxRecDepth 20000 in
theorem ggX11_line_X11_begins : GoodIn wsX11_line wsX11_begins := goodIn_r _ [18, 7, 19, 20, 21, 22, 23, 11, 24, 25, 26, 27, 28, 2, 29, 30, 31, 32, 33, 34, 35, 36, 37, 38, 136, 137, 138, 139, 140, 141, 142, 143, 144, 145, 146, 147, 148, 149, 150, 151, 152, 153, 154, 155, 156, 157, 158, 159, 160, 161, 162, 163, 164, 165, 166, 167, 168, 169, 170, 171, 172, 173, 174, 175, 176, 177, 178, 179, 180, 181, 182, 183, 184, 185, 186, 187, 188, 189, 190, 191, 192, 193] (by decide +kernel) (by decide +kernel)
set_option maxRecDepth 20000 in
theorem gX11_line_X11_begins : GoodIn wsX11_line (wsV RX11 268 RX11 yX11_begins wsX11_begins) := goodIn_app (goodIn_of _ (by decide +kernel)) ggX11_line_X11_begins
set_option maxRecDepth 20000 in
theorem ggX11_line_X11_isGood : GoodIn wsX11_line wsX11_isGood := goodIn_r _ [42, 7, 136, 137, 138, 139, 140, 141, 142, 143, 144, 145, 146, 147, 148, 149, 150, 151, 152, 153, 154, 155, 156, 157, 158, 159, 160, 161, 162, 163, 164, 165, 166, 167, 168, 169, 170, 171, 172, 173, 174, 175, 176, 177, 178, 179, 180, 181, 182, 183, 184, 185, 186, 187, 188, 189, 190, 191, 192, 193] (by decide +kernel) (by decide +kernel)
set_option maxRecDepth 20000 in
theorem gX11_line_X11_isGood : GoodIn wsX11_line (wsV RX11 215 RX11 yX11_isGood wsX11_isGood) := goodIn_app (goodIn_of _ (by decide +kernel)) ggX11_line_X11_isGood
set_option maxRecDepth 20000 in
theorem ggX11_line_X11_isOver : GoodIn wsX11_line wsX11_isOver := goodIn_r _ [126, 28, 7, 127, 19, 128, 136, 137, 138, 139, 140, 141, 142, 143, 144, 145, 146, 147, 148, 149, 150, 151, 152, 153, 154, 155, 156, 157, 158, 159, 160, 161, 162, 163, 164, 165, 166, 167, 168, 169, 170, 171, 172, 173, 174, 175, 176, 177, 178, 179, 180, 181, 182, 183, 184, 185, 186, 187, 188, 189, 190, 191, 192, 193] (by decide +kernel) (by decide +kernel)
set_option maxRecDepth 20000 in
theorem gX11_line_X11_isOver : GoodIn wsX11_line (wsV RX11 279 RX11 yX11_isOver wsX11_isOver) := goodIn_app (goodIn_of _ (by decide +kernel)) ggX11_line_X11_isOver
set_option maxRecDepth 20000 in
theorem ggX11_line_X11_copyLine : GoodIn wsX11_line wsX11_copyLine := goodIn_r _ [132, 3, 5, 13, 14, 93, 96, 99, 101, 102, 105, 117, 133, 134, 11, 135, 136, 137, 138, 139, 140, 141, 142, 143, 144, 145, 146, 147, 148, 149, 150, 151, 152, 153, 154, 155, 156, 157, 158, 159, 160, 161, 162, 163, 164, 165, 166, 167, 168, 169, 170, 171, 172, 173, 174, 175, 176, 177, 178, 179, 180, 181, 182, 183, 184, 185, 186, 187, 188, 189, 190, 191, 192, 193] (by decide +kernel) (by decide +kernel)
set_option maxRecDepth 20000 in
theorem gX11_line_X11_copyLine : GoodIn wsX11_line (wsV RX11 282 RX11 yX11_copyLine wsX11_copyLine) := goodIn_app (goodIn_of _ (by decide +kernel)) ggX11_line_X11_copyLine
theorem dX11_line_0 : decode cX11_line 0 = .ok (.aload_n 0, 1) := by decide +kernel
theorem dX11_line_1 : decode cX11_line 1 = .ok (.iconst 0, 1) := by decide +kernel
theorem dX11_line_2 : decode cX11_line 2 = .ok (.putfield 120, 3) := by decide +kernel
theorem dX11_line_5 : decode cX11_line 5 = .ok (.aload_n 0, 1) := by decide +kernel
theorem dX11_line_6 : decode cX11_line 6 = .ok (.invokevirtual 265, 3) := by decide +kernel
theorem dX11_line_9 : decode cX11_line 9 = .ok (.aload_n 0, 1) := by decide +kernel
theorem dX11_line_10 : decode cX11_line 10 = .ok (.invokevirtual 268, 3) := by decide +kernel
theorem dX11_line_13 : decode cX11_line 13 = .ok (.aload_n 0, 1) := by decide +kernel
theorem dX11_line_14 : decode cX11_line 14 = .ok (.invokevirtual 215, 3) := by decide +kernel
theorem dX11_line_17 : decode cX11_line 17 = .ok (.ifCond .eq 75, 3) := by decide +kernel
theorem dX11_line_20 : decode cX11_line 20 = .ok (.aload_n 0, 1) := by decide +kernel
theorem dX11_line_21 : decode cX11_line 21 = .ok (.getfield 161, 3) := by decide +kernel
theorem dX11_line_24 : decode cX11_line 24 = .ok (.ifCond .eq 68, 3) := by decide +kernel
theorem dX11_line_27 : decode cX11_line 27 = .ok (.aload_n 0, 1) := by decide +kernel
theorem dX11_line_28 : decode cX11_line 28 = .ok (.getfield 31, 3) := by decide +kernel
theorem dX11_line_31 : decode cX11_line 31 = .ok (.iconst 4, 1) := by decide +kernel
theorem dX11_line_32 : decode cX11_line 32 = .ok (.iaload, 1) := by decide +kernel
theorem dX11_line_33 : decode cX11_line 33 = .ok (.ifCond .ne 31, 3) := by decide +kernel
theorem dX11_line_36 : decode cX11_line 36 = .ok (.aload_n 0, 1) := by decide +kernel
theorem dX11_line_37 : decode cX11_line 37 = .ok (.ldc2_w 271, 3) := by decide +kernel
theorem dX11_line_40 : decode cX11_line 40 = .ok (.invokevirtual 191, 3) := by decide +kernel
theorem dX11_line_43 : decode cX11_line 43 = .ok (.aload_n 0, 1) := by decide +kernel
theorem dX11_line_44 : decode cX11_line 44 = .ok (.getfield 34, 3) := by decide +kernel
theorem dX11_line_47 : decode cX11_line 47 = .ok (.iconst 4, 1) := by decide +kernel
theorem dX11_line_48 : decode cX11_line 48 = .ok (.aload_n 0, 1) := by decide +kernel
theorem dX11_line_49 : decode cX11_line 49 = .ok (.ldc2_w 228, 3) := by decide +kernel
theorem dX11_line_52 : decode cX11_line 52 = .ok (.bipush 20, 2) := by decide +kernel
theorem dX11_line_54 : decode cX11_line 54 = .ok (.sipush 400, 3) := by decide +kernel
theorem dX11_line_57 : decode cX11_line 57 = .ok (.invokevirtual 221, 3) := by decide +kernel
theorem dX11_line_60 : decode cX11_line 60 = .ok (.iastore, 1) := by decide +kernel
theorem dX11_line_61 : decode cX11_line 61 = .ok (.goto 7, 3) := by decide +kernel
theorem dX11_line_64 : decode cX11_line 64 = .ok (.aload_n 0, 1) := by decide +kernel
theorem dX11_line_65 : decode cX11_line 65 = .ok (.invokevirtual 273, 3) := by decide +kernel
theorem dX11_line_68 : decode cX11_line 68 = .ok (.aload_n 0, 1) := by decide +kernel
theorem dX11_line_69 : decode cX11_line 69 = .ok (.invokevirtual 215, 3) := by decide +kernel
theorem dX11_line_72 : decode cX11_line 72 = .ok (.ifCond .eq 7, 3) := by decide +kernel
theorem dX11_line_75 : decode cX11_line 75 = .ok (.aload_n 0, 1) := by decide +kernel
theorem dX11_line_76 : decode cX11_line 76 = .ok (.invokevirtual 276, 3) := by decide +kernel
theorem dX11_line_79 : decode cX11_line 79 = .ok (.aload_n 0, 1) := by decide +kernel
theorem dX11_line_80 : decode cX11_line 80 = .ok (.getfield 31, 3) := by decide +kernel
theorem dX11_line_83 : decode cX11_line 83 = .ok (.iconst 4, 1) := by decide +kernel
theorem dX11_line_84 : decode cX11_line 84 = .ok (.dup2, 1) := by decide +kernel
theorem dX11_line_85 : decode cX11_line 85 = .ok (.iaload, 1) := by decide +kernel
theorem dX11_line_86 : decode cX11_line 86 = .ok (.iconst 1, 1) := by decide +kernel
theorem dX11_line_87 : decode cX11_line 87 = .ok (.iadd, 1) := by decide +kernel
theorem dX11_line_88 : decode cX11_line 88 = .ok (.iastore, 1) := by decide +kernel
theorem dX11_line_89 : decode cX11_line 89 = .ok (.goto (-76), 3) := by decide +kernel
theorem dX11_line_92 : decode cX11_line 92 = .ok (.aload_n 0, 1) := by decide +kernel
theorem dX11_line_93 : decode cX11_line 93 = .ok (.invokevirtual 279, 3) := by decide +kernel
theorem dX11_line_96 : decode cX11_line 96 = .ok (.aload_n 0, 1) := by decide +kernel
theorem dX11_line_97 : decode cX11_line 97 = .ok (.getfield 172, 3) := by decide +kernel
theorem dX11_line_100 : decode cX11_line 100 = .ok (.ifCond .eq 6, 3) := by decide +kernel
theorem dX11_line_103 : decode cX11_line 103 = .ok (.bipush (-4), 2) := by decide +kernel
theorem dX11_line_105 : decode cX11_line 105 = .ok (.ireturn, 1) := by decide +kernel
theorem dX11_line_106 : decode cX11_line 106 = .ok (.aload_n 0, 1) := by decide +kernel
theorem dX11_line_107 : decode cX11_line 107 = .ok (.iconst 4, 1) := by decide +kernel
theorem dX11_line_108 : decode cX11_line 108 = .ok (.iconst 0, 1) := by decide +kernel
theorem dX11_line_109 : decode cX11_line 109 = .ok (.invokevirtual 282, 3) := by decide +kernel
theorem dX11_line_112 : decode cX11_line 112 = .ok (.aload_n 0, 1) := by decide +kernel
theorem dX11_line_113 : decode cX11_line 113 = .ok (.getfield 31, 3) := by decide +kernel
theorem dX11_line_116 : decode cX11_line 116 = .ok (.iconst 0, 1) := by decide +kernel
theorem dX11_line_117 : decode cX11_line 117 = .ok (.iaload, 1) := by decide +kernel
theorem dX11_line_118 : decode cX11_line 118 = .ok (.ireturn, 1) := by decide +kernel
theorem dX11_copyRow_0 : decode cX11_copyRow 0 = .ok (.iconst 0, 1) := by decide +kernel
theorem dX11_copyRow_1 : decode cX11_copyRow 1 = .ok (.istore 4, 2) := by decide +kernel
theorem dX11_copyRow_3 : decode cX11_copyRow 3 = .ok (.iload 4, 2) := by decide +kernel
theorem dX11_copyRow_5 : decode cX11_copyRow 5 = .ok (.iload_n 1, 1) := by decide +kernel
theorem dX11_copyRow_6 : decode cX11_copyRow 6 = .ok (.if_icmp .ge 25, 3) := by decide +kernel
theorem dX11_copyRow_9 : decode cX11_copyRow 9 = .ok (.aload_n 0, 1) := by decide +kernel
theorem dX11_copyRow_10 : decode cX11_copyRow 10 = .ok (.iload_n 1, 1) := by decide +kernel
theorem dX11_copyRow_11 : decode cX11_copyRow 11 = .ok (.iload_n 3, 1) := by decide +kernel
theorem dX11_copyRow_12 : decode cX11_copyRow 12 = .ok (.imul, 1) := by decide +kernel
theorem dX11_copyRow_13 : decode cX11_copyRow 13 = .ok (.iload 4, 2) := by decide +kernel
theorem dX11_copyRow_15 : decode cX11_copyRow 15 = .ok (.iadd, 1) := by decide +kernel
theorem dX11_copyRow_16 : decode cX11_copyRow 16 = .ok (.aload_n 0, 1) := by decide +kernel
theorem dX11_copyRow_17 : decode cX11_copyRow 17 = .ok (.iload_n 1, 1) := by decide +kernel
theorem dX11_copyRow_18 : decode cX11_copyRow 18 = .ok (.iload_n 2, 1) := by decide +kernel
theorem dX11_copyRow_19 : decode cX11_copyRow 19 = .ok (.imul, 1) := by decide +kernel
theorem dX11_copyRow_20 : decode cX11_copyRow 20 = .ok (.iload 4, 2) := by decide +kernel
theorem dX11_copyRow_22 : decode cX11_copyRow 22 = .ok (.iadd, 1) := by decide +kernel
theorem dX11_copyRow_23 : decode cX11_copyRow 23 = .ok (.iaload, 1) := by decide +kernel
theorem dX11_copyRow_24 : decode cX11_copyRow 24 = .ok (.iastore, 1) := by decide +kernel
theorem dX11_copyRow_25 : decode cX11_copyRow 25 = .ok (.iinc 4 1, 3) := by decide +kernel
theorem dX11_copyRow_28 : decode cX11_copyRow 28 = .ok (.goto (-25), 3) := by decide +kernel
theorem dX11_copyRow_31 : decode cX11_copyRow 31 = .ok (.return_, 1) := by decide +kernel
set_option maxRecDepth 20000 in
theorem ggX11_copyLine_X11_copyRow : GoodIn wsX11_copyLine wsX11_copyRow := goodIn_r _ [15] (by decide +kernel) (by decide +kernel)
set_option maxRecDepth 20000 in
theorem gX11_copyLine_X11_copyRow : GoodIn wsX11_copyLine (va_wsS RX11 286 yX11_copyRow wsX11_copyRow) := goodIn_app (goodIn_of _ (by decide +kernel)) ggX11_copyLine_X11_copyRow
theorem dX11_copyLine_0 : decode cX11_copyLine 0 = .ok (.aload_n 0, 1) := by decide +kernel
theorem dX11_copyLine_1 : decode cX11_copyLine 1 = .ok (.getfield 31, 3) := by decide +kernel
theorem dX11_copyLine_4 : decode cX11_copyLine 4 = .ok (.iconst 1, 1) := by decide +kernel
theorem dX11_copyLine_5 : decode cX11_copyLine 5 = .ok (.iload_n 1, 1) := by decide +kernel
theorem dX11_copyLine_6 : decode cX11_copyLine 6 = .ok (.iload_n 2, 1) := by decide +kernel
theorem dX11_copyLine_7 : decode cX11_copyLine 7 = .ok (.invokestatic 286, 3) := by decide +kernel
theorem dX11_copyLine_10 : decode cX11_copyLine 10 = .ok (.aload_n 0, 1) := by decide +kernel
theorem dX11_copyLine_11 : decode cX11_copyLine 11 = .ok (.getfield 34, 3) := by decide +kernel
theorem dX11_copyLine_14 : decode cX11_copyLine 14 = .ok (.iconst 1, 1) := by decide +kernel
theorem dX11_copyLine_15 : decode cX11_copyLine 15 = .ok (.iload_n 1, 1) := by decide +kernel
theorem dX11_copyLine_16 : decode cX11_copyLine 16 = .ok (.iload_n 2, 1) := by decide +kernel
theorem dX11_copyLine_17 : decode cX11_copyLine 17 = .ok (.invokestatic 286, 3) := by decide +kernel
theorem dX11_copyLine_20 : decode cX11_copyLine 20 = .ok (.aload_n 0, 1) := by decide +kernel
theorem dX11_copyLine_21 : decode cX11_copyLine 21 = .ok (.getfield 37, 3) := by decide +kernel
theorem dX11_copyLine_24 : decode cX11_copyLine 24 = .ok (.iconst 1, 1) := by decide +kernel
theorem dX11_copyLine_25 : decode cX11_copyLine 25 = .ok (.iload_n 1, 1) := by decide +kernel
theorem dX11_copyLine_26 : decode cX11_copyLine 26 = .ok (.iload_n 2, 1) := by decide +kernel
theorem dX11_copyLine_27 : decode cX11_copyLine 27 = .ok (.invokestatic 286, 3) := by decide +kernel
theorem dX11_copyLine_30 : decode cX11_copyLine 30 = .ok (.aload_n 0, 1) := by decide +kernel
theorem dX11_copyLine_31 : decode cX11_copyLine 31 = .ok (.getfield 40, 3) := by decide +kernel
theorem dX11_copyLine_34 : decode cX11_copyLine 34 = .ok (.bipush 7, 2) := by decide +kernel
theorem dX11_copyLine_36 : decode cX11_copyLine 36 = .ok (.iload_n 1, 1) := by decide +kernel
theorem dX11_copyLine_37 : decode cX11_copyLine 37 = .ok (.iload_n 2, 1) := by decide +kernel
theorem dX11_copyLine_38 : decode cX11_copyLine 38 = .ok (.invokestatic 286, 3) := by decide +kernel
theorem dX11_copyLine_41 : decode cX11_copyLine 41 = .ok (.aload_n 0, 1) := by decide +kernel
theorem dX11_copyLine_42 : decode cX11_copyLine 42 = .ok (.getfield 43, 3) := by decide +kernel
theorem dX11_copyLine_45 : decode cX11_copyLine 45 = .ok (.bipush 16, 2) := by decide +kernel
theorem dX11_copyLine_47 : decode cX11_copyLine 47 = .ok (.iload_n 1, 1) := by decide +kernel
theorem dX11_copyLine_48 : decode cX11_copyLine 48 = .ok (.iload_n 2, 1) := by decide +kernel
theorem dX11_copyLine_49 : decode cX11_copyLine 49 = .ok (.invokestatic 286, 3) := by decide +kernel
theorem dX11_copyLine_52 : decode cX11_copyLine 52 = .ok (.aload_n 0, 1) := by decide +kernel
theorem dX11_copyLine_53 : decode cX11_copyLine 53 = .ok (.getfield 46, 3) := by decide +kernel
theorem dX11_copyLine_56 : decode cX11_copyLine 56 = .ok (.bipush 18, 2) := by decide +kernel
theorem dX11_copyLine_58 : decode cX11_copyLine 58 = .ok (.iload_n 1, 1) := by decide +kernel
theorem dX11_copyLine_59 : decode cX11_copyLine 59 = .ok (.iload_n 2, 1) := by decide +kernel
theorem dX11_copyLine_60 : decode cX11_copyLine 60 = .ok (.invokestatic 286, 3) := by decide +kernel
theorem dX11_copyLine_63 : decode cX11_copyLine 63 = .ok (.aload_n 0, 1) := by decide +kernel
theorem dX11_copyLine_64 : decode cX11_copyLine 64 = .ok (.getfield 49, 3) := by decide +kernel
theorem dX11_copyLine_67 : decode cX11_copyLine 67 = .ok (.bipush 12, 2) := by decide +kernel
theorem dX11_copyLine_69 : decode cX11_copyLine 69 = .ok (.iload_n 1, 1) := by decide +kernel
theorem dX11_copyLine_70 : decode cX11_copyLine 70 = .ok (.iload_n 2, 1) := by decide +kernel
theorem dX11_copyLine_71 : decode cX11_copyLine 71 = .ok (.invokestatic 286, 3) := by decide +kernel
theorem dX11_copyLine_74 : decode cX11_copyLine 74 = .ok (.aload_n 0, 1) := by decide +kernel
theorem dX11_copyLine_75 : decode cX11_copyLine 75 = .ok (.getfield 52, 3) := by decide +kernel
theorem dX11_copyLine_78 : decode cX11_copyLine 78 = .ok (.bipush 12, 2) := by decide +kernel
theorem dX11_copyLine_80 : decode cX11_copyLine 80 = .ok (.iload_n 1, 1) := by decide +kernel
theorem dX11_copyLine_81 : decode cX11_copyLine 81 = .ok (.iload_n 2, 1) := by decide +kernel
theorem dX11_copyLine_82 : decode cX11_copyLine 82 = .ok (.invokestatic 286, 3) := by decide +kernel
theorem dX11_copyLine_85 : decode cX11_copyLine 85 = .ok (.aload_n 0, 1) := by decide +kernel
theorem dX11_copyLine_86 : decode cX11_copyLine 86 = .ok (.getfield 55, 3) := by decide +kernel
theorem dX11_copyLine_89 : decode cX11_copyLine 89 = .ok (.bipush 20, 2) := by decide +kernel
theorem dX11_copyLine_91 : decode cX11_copyLine 91 = .ok (.iload_n 1, 1) := by decide +kernel
theorem dX11_copyLine_92 : decode cX11_copyLine 92 = .ok (.iload_n 2, 1) := by decide +kernel
theorem dX11_copyLine_93 : decode cX11_copyLine 93 = .ok (.invokestatic 286, 3) := by decide +kernel
theorem dX11_copyLine_96 : decode cX11_copyLine 96 = .ok (.aload_n 0, 1) := by decide +kernel
theorem dX11_copyLine_97 : decode cX11_copyLine 97 = .ok (.getfield 58, 3) := by decide +kernel
theorem dX11_copyLine_100 : decode cX11_copyLine 100 = .ok (.bipush 15, 2) := by decide +kernel
theorem dX11_copyLine_102 : decode cX11_copyLine 102 = .ok (.iload_n 1, 1) := by decide +kernel
theorem dX11_copyLine_103 : decode cX11_copyLine 103 = .ok (.iload_n 2, 1) := by decide +kernel
theorem dX11_copyLine_104 : decode cX11_copyLine 104 = .ok (.invokestatic 286, 3) := by decide +kernel
theorem dX11_copyLine_107 : decode cX11_copyLine 107 = .ok (.aload_n 0, 1) := by decide +kernel
theorem dX11_copyLine_108 : decode cX11_copyLine 108 = .ok (.getfield 61, 3) := by decide +kernel
theorem dX11_copyLine_111 : decode cX11_copyLine 111 = .ok (.bipush 80, 2) := by decide +kernel
theorem dX11_copyLine_113 : decode cX11_copyLine 113 = .ok (.iload_n 1, 1) := by decide +kernel
theorem dX11_copyLine_114 : decode cX11_copyLine 114 = .ok (.iload_n 2, 1) := by decide +kernel
theorem dX11_copyLine_115 : decode cX11_copyLine 115 = .ok (.invokestatic 286, 3) := by decide +kernel
theorem dX11_copyLine_118 : decode cX11_copyLine 118 = .ok (.return_, 1) := by decide +kernel
theorem dX11_isLine_0 : decode cX11_isLine 0 = .ok (.aload_n 0, 1) := by decide +kernel
theorem dX11_isLine_1 : decode cX11_isLine 1 = .ok (.getfield 34, 3) := by decide +kernel
theorem dX11_isLine_4 : decode cX11_isLine 4 = .ok (.iconst 0, 1) := by decide +kernel
theorem dX11_isLine_5 : decode cX11_isLine 5 = .ok (.iaload, 1) := by decide +kernel
theorem dX11_isLine_6 : decode cX11_isLine 6 = .ok (.ifCond .le 7, 3) := by decide +kernel
theorem dX11_isLine_9 : decode cX11_isLine 9 = .ok (.iconst 1, 1) := by decide +kernel
theorem dX11_isLine_10 : decode cX11_isLine 10 = .ok (.goto 4, 3) := by decide +kernel
theorem dX11_isLine_13 : decode cX11_isLine 13 = .ok (.iconst 0, 1) := by decide +kernel
theorem dX11_isLine_14 : decode cX11_isLine 14 = .ok (.ireturn, 1) := by decide +kernel
set_option maxRecDepth 20000 in
theorem ggX11_isYard_X11_isLine : GoodIn wsX11_isYard wsX11_isLine := goodIn_r _ [6, 1, 10, 11, 12, 13, 14, 15, 16, 17, 18, 19, 20, 21, 22, 23, 24, 25, 26, 27, 28, 29, 30, 31, 32, 33, 34, 35, 36, 37, 38, 39, 40, 41, 42, 43, 44, 45, 46, 47, 48, 49, 50, 51, 52, 53, 54, 55, 56, 57, 58, 59, 60, 61, 62, 63, 64, 65, 66, 67] (by decide +kernel) (by decide +kernel)
set_option maxRecDepth 20000 in
theorem gX11_isYard_X11_isLine : GoodIn wsX11_isYard (wsV RX11 290 RX11 yX11_isLine wsX11_isLine) := goodIn_app (goodIn_of _ (by decide +kernel)) ggX11_isYard_X11_isLine
theorem dX11_isYard_0 : decode cX11_isYard 0 = .ok (.aload_n 0, 1) := by decide +kernel
theorem dX11_isYard_1 : decode cX11_isYard 1 = .ok (.invokevirtual 290, 3) := by decide +kernel
theorem dX11_isYard_4 : decode cX11_isYard 4 = .ok (.ifCond .eq 23, 3) := by decide +kernel
theorem dX11_isYard_7 : decode cX11_isYard 7 = .ok (.iload_n 1, 1) := by decide +kernel
theorem dX11_isYard_8 : decode cX11_isYard 8 = .ok (.i2l, 1) := by decide +kernel
theorem dX11_isYard_9 : decode cX11_isYard 9 = .ok (.lconst 0, 1) := by decide +kernel
theorem dX11_isYard_10 : decode cX11_isYard 10 = .ok (.aload_n 0, 1) := by decide +kernel
theorem dX11_isYard_11 : decode cX11_isYard 11 = .ok (.getfield 34, 3) := by decide +kernel
theorem dX11_isYard_14 : decode cX11_isYard 14 = .ok (.iconst 0, 1) := by decide +kernel
theorem dX11_isYard_15 : decode cX11_isYard 15 = .ok (.iaload, 1) := by decide +kernel
theorem dX11_isYard_16 : decode cX11_isYard 16 = .ok (.i2l, 1) := by decide +kernel
theorem dX11_isYard_17 : decode cX11_isYard 17 = .ok (.invokestatic 125, 3) := by decide +kernel
theorem dX11_isYard_20 : decode cX11_isYard 20 = .ok (.ifCond .eq 7, 3) := by decide +kernel
theorem dX11_isYard_23 : decode cX11_isYard 23 = .ok (.iconst 1, 1) := by decide +kernel
theorem dX11_isYard_24 : decode cX11_isYard 24 = .ok (.goto 4, 3) := by decide +kernel
theorem dX11_isYard_27 : decode cX11_isYard 27 = .ok (.iconst 0, 1) := by decide +kernel
theorem dX11_isYard_28 : decode cX11_isYard 28 = .ok (.ireturn, 1) := by decide +kernel
set_option maxRecDepth 20000 in
theorem ggX11_isKind_X11_in : GoodIn wsX11_isKind wsX11_in := goodIn_r _ [5] (by decide +kernel) (by decide +kernel)
set_option maxRecDepth 20000 in
theorem gX11_isKind_X11_in : GoodIn wsX11_isKind (va_wsS RX11 125 yX11_in wsX11_in) := goodIn_app (goodIn_of _ (by decide +kernel)) ggX11_isKind_X11_in
theorem dX11_isKind_0 : decode cX11_isKind 0 = .ok (.iload_n 1, 1) := by decide +kernel
theorem dX11_isKind_1 : decode cX11_isKind 1 = .ok (.i2l, 1) := by decide +kernel
theorem dX11_isKind_2 : decode cX11_isKind 2 = .ok (.lconst 0, 1) := by decide +kernel
theorem dX11_isKind_3 : decode cX11_isKind 3 = .ok (.aload_n 0, 1) := by decide +kernel
theorem dX11_isKind_4 : decode cX11_isKind 4 = .ok (.getfield 40, 3) := by decide +kernel
theorem dX11_isKind_7 : decode cX11_isKind 7 = .ok (.iconst 4, 1) := by decide +kernel
theorem dX11_isKind_8 : decode cX11_isKind 8 = .ok (.iaload, 1) := by decide +kernel
theorem dX11_isKind_9 : decode cX11_isKind 9 = .ok (.iconst 1, 1) := by decide +kernel
theorem dX11_isKind_10 : decode cX11_isKind 10 = .ok (.isub, 1) := by decide +kernel
theorem dX11_isKind_11 : decode cX11_isKind 11 = .ok (.i2l, 1) := by decide +kernel
theorem dX11_isKind_12 : decode cX11_isKind 12 = .ok (.invokestatic 125, 3) := by decide +kernel
theorem dX11_isKind_15 : decode cX11_isKind 15 = .ok (.ireturn, 1) := by decide +kernel
set_option maxRecDepth 20000 in
theorem ggX11_isPlatform_X11_in : GoodIn wsX11_isPlatform wsX11_in := goodIn_r _ [5] (by decide +kernel) (by decide +kernel)
set_option maxRecDepth 20000 in
theorem gX11_isPlatform_X11_in : GoodIn wsX11_isPlatform (va_wsS RX11 125 yX11_in wsX11_in) := goodIn_app (goodIn_of _ (by decide +kernel)) ggX11_isPlatform_X11_in
theorem dX11_isPlatform_0 : decode cX11_isPlatform 0 = .ok (.iload_n 1, 1) := by decide +kernel
theorem dX11_isPlatform_1 : decode cX11_isPlatform 1 = .ok (.i2l, 1) := by decide +kernel
theorem dX11_isPlatform_2 : decode cX11_isPlatform 2 = .ok (.lconst 0, 1) := by decide +kernel
theorem dX11_isPlatform_3 : decode cX11_isPlatform 3 = .ok (.aload_n 0, 1) := by decide +kernel
theorem dX11_isPlatform_4 : decode cX11_isPlatform 4 = .ok (.getfield 40, 3) := by decide +kernel
theorem dX11_isPlatform_7 : decode cX11_isPlatform 7 = .ok (.iconst 3, 1) := by decide +kernel
theorem dX11_isPlatform_8 : decode cX11_isPlatform 8 = .ok (.iaload, 1) := by decide +kernel
theorem dX11_isPlatform_9 : decode cX11_isPlatform 9 = .ok (.iconst 1, 1) := by decide +kernel
theorem dX11_isPlatform_10 : decode cX11_isPlatform 10 = .ok (.isub, 1) := by decide +kernel
theorem dX11_isPlatform_11 : decode cX11_isPlatform 11 = .ok (.i2l, 1) := by decide +kernel
theorem dX11_isPlatform_12 : decode cX11_isPlatform 12 = .ok (.invokestatic 125, 3) := by decide +kernel
theorem dX11_isPlatform_15 : decode cX11_isPlatform 15 = .ok (.ireturn, 1) := by decide +kernel
set_option maxRecDepth 20000 in
theorem ggX11_isTrain_X11_in : GoodIn wsX11_isTrain wsX11_in := goodIn_r _ [5] (by decide +kernel) (by decide +kernel)
set_option maxRecDepth 20000 in
theorem gX11_isTrain_X11_in : GoodIn wsX11_isTrain (va_wsS RX11 125 yX11_in wsX11_in) := goodIn_app (goodIn_of _ (by decide +kernel)) ggX11_isTrain_X11_in
theorem dX11_isTrain_0 : decode cX11_isTrain 0 = .ok (.iload_n 1, 1) := by decide +kernel
theorem dX11_isTrain_1 : decode cX11_isTrain 1 = .ok (.i2l, 1) := by decide +kernel
theorem dX11_isTrain_2 : decode cX11_isTrain 2 = .ok (.lconst 0, 1) := by decide +kernel
theorem dX11_isTrain_3 : decode cX11_isTrain 3 = .ok (.aload_n 0, 1) := by decide +kernel
theorem dX11_isTrain_4 : decode cX11_isTrain 4 = .ok (.getfield 40, 3) := by decide +kernel
theorem dX11_isTrain_7 : decode cX11_isTrain 7 = .ok (.iconst 5, 1) := by decide +kernel
theorem dX11_isTrain_8 : decode cX11_isTrain 8 = .ok (.iaload, 1) := by decide +kernel
theorem dX11_isTrain_9 : decode cX11_isTrain 9 = .ok (.iconst 1, 1) := by decide +kernel
theorem dX11_isTrain_10 : decode cX11_isTrain 10 = .ok (.isub, 1) := by decide +kernel
theorem dX11_isTrain_11 : decode cX11_isTrain 11 = .ok (.i2l, 1) := by decide +kernel
theorem dX11_isTrain_12 : decode cX11_isTrain 12 = .ok (.invokestatic 125, 3) := by decide +kernel
theorem dX11_isTrain_15 : decode cX11_isTrain 15 = .ok (.ireturn, 1) := by decide +kernel
set_option maxRecDepth 20000 in
theorem ggX11_isCoach_X11_in : GoodIn wsX11_isCoach wsX11_in := goodIn_r _ [5] (by decide +kernel) (by decide +kernel)
set_option maxRecDepth 20000 in
theorem gX11_isCoach_X11_in : GoodIn wsX11_isCoach (va_wsS RX11 125 yX11_in wsX11_in) := goodIn_app (goodIn_of _ (by decide +kernel)) ggX11_isCoach_X11_in
theorem dX11_isCoach_0 : decode cX11_isCoach 0 = .ok (.iload_n 1, 1) := by decide +kernel
theorem dX11_isCoach_1 : decode cX11_isCoach 1 = .ok (.i2l, 1) := by decide +kernel
theorem dX11_isCoach_2 : decode cX11_isCoach 2 = .ok (.lconst 0, 1) := by decide +kernel
theorem dX11_isCoach_3 : decode cX11_isCoach 3 = .ok (.aload_n 0, 1) := by decide +kernel
theorem dX11_isCoach_4 : decode cX11_isCoach 4 = .ok (.getfield 40, 3) := by decide +kernel
theorem dX11_isCoach_7 : decode cX11_isCoach 7 = .ok (.bipush 6, 2) := by decide +kernel
theorem dX11_isCoach_9 : decode cX11_isCoach 9 = .ok (.iaload, 1) := by decide +kernel
theorem dX11_isCoach_10 : decode cX11_isCoach 10 = .ok (.iconst 1, 1) := by decide +kernel
theorem dX11_isCoach_11 : decode cX11_isCoach 11 = .ok (.isub, 1) := by decide +kernel
theorem dX11_isCoach_12 : decode cX11_isCoach 12 = .ok (.i2l, 1) := by decide +kernel
theorem dX11_isCoach_13 : decode cX11_isCoach 13 = .ok (.invokestatic 125, 3) := by decide +kernel
theorem dX11_isCoach_16 : decode cX11_isCoach 16 = .ok (.ireturn, 1) := by decide +kernel
set_option maxRecDepth 20000 in
theorem ggX11_yard__X11_isYard : GoodIn wsX11_yard_ wsX11_isYard := goodIn_r _ [7, 8, 9, 10, 11, 6, 12, 13, 14, 15, 33, 34, 35, 36, 37, 38, 39, 40, 41, 42, 43, 44, 45, 46, 47, 48, 49, 50, 51, 52, 53, 54, 55, 56, 57, 58, 59, 60, 61, 62, 63, 64, 65, 66, 67, 68, 69, 70, 71, 72, 73, 74, 75, 76, 77, 78, 79, 80, 81, 82, 83, 84, 85, 86, 87, 88, 89, 90] (by decide +kernel) (by decide +kernel)
set_option maxRecDepth 20000 in
theorem gX11_yard__X11_isYard : GoodIn wsX11_yard_ (wsV RX11 293 RX11 yX11_isYard wsX11_isYard) := goodIn_app (goodIn_of _ (by decide +kernel)) ggX11_yard__X11_isYard
theorem dX11_yard__0 : decode cX11_yard_ 0 = .ok (.aload_n 0, 1) := by decide +kernel
theorem dX11_yard__1 : decode cX11_yard_ 1 = .ok (.iconst 0, 1) := by decide +kernel
theorem dX11_yard__2 : decode cX11_yard_ 2 = .ok (.putfield 120, 3) := by decide +kernel
theorem dX11_yard__5 : decode cX11_yard_ 5 = .ok (.aload_n 0, 1) := by decide +kernel
theorem dX11_yard__6 : decode cX11_yard_ 6 = .ok (.iload_n 1, 1) := by decide +kernel
theorem dX11_yard__7 : decode cX11_yard_ 7 = .ok (.invokevirtual 293, 3) := by decide +kernel
theorem dX11_yard__10 : decode cX11_yard_ 10 = .ok (.ifCond .eq 15, 3) := by decide +kernel
theorem dX11_yard__13 : decode cX11_yard_ 13 = .ok (.iload_n 2, 1) := by decide +kernel
theorem dX11_yard__14 : decode cX11_yard_ 14 = .ok (.i2l, 1) := by decide +kernel
theorem dX11_yard__15 : decode cX11_yard_ 15 = .ok (.lconst 0, 1) := by decide +kernel
theorem dX11_yard__16 : decode cX11_yard_ 16 = .ok (.ldc2_w 296, 3) := by decide +kernel
theorem dX11_yard__19 : decode cX11_yard_ 19 = .ok (.invokestatic 125, 3) := by decide +kernel
theorem dX11_yard__22 : decode cX11_yard_ 22 = .ok (.ifCond .ne 8, 3) := by decide +kernel
theorem dX11_yard__25 : decode cX11_yard_ 25 = .ok (.bipush (-2), 2) := by decide +kernel
theorem dX11_yard__27 : decode cX11_yard_ 27 = .ok (.goto 36, 3) := by decide +kernel
theorem dX11_yard__30 : decode cX11_yard_ 30 = .ok (.iload_n 2, 1) := by decide +kernel
theorem dX11_yard__31 : decode cX11_yard_ 31 = .ok (.ifCond .ne 14, 3) := by decide +kernel
theorem dX11_yard__34 : decode cX11_yard_ 34 = .ok (.aload_n 0, 1) := by decide +kernel
theorem dX11_yard__35 : decode cX11_yard_ 35 = .ok (.iload_n 1, 1) := by decide +kernel
theorem dX11_yard__36 : decode cX11_yard_ 36 = .ok (.invokevirtual 298, 3) := by decide +kernel
theorem dX11_yard__39 : decode cX11_yard_ 39 = .ok (.bipush 10, 2) := by decide +kernel
theorem dX11_yard__41 : decode cX11_yard_ 41 = .ok (.iadd, 1) := by decide +kernel
theorem dX11_yard__42 : decode cX11_yard_ 42 = .ok (.goto 21, 3) := by decide +kernel
theorem dX11_yard__45 : decode cX11_yard_ 45 = .ok (.iload_n 2, 1) := by decide +kernel
theorem dX11_yard__46 : decode cX11_yard_ 46 = .ok (.iconst 1, 1) := by decide +kernel
theorem dX11_yard__47 : decode cX11_yard_ 47 = .ok (.if_icmp .ne 11, 3) := by decide +kernel
theorem dX11_yard__50 : decode cX11_yard_ 50 = .ok (.aload_n 0, 1) := by decide +kernel
theorem dX11_yard__51 : decode cX11_yard_ 51 = .ok (.iload_n 1, 1) := by decide +kernel
theorem dX11_yard__52 : decode cX11_yard_ 52 = .ok (.invokevirtual 301, 3) := by decide +kernel
theorem dX11_yard__55 : decode cX11_yard_ 55 = .ok (.goto 8, 3) := by decide +kernel
theorem dX11_yard__58 : decode cX11_yard_ 58 = .ok (.aload_n 0, 1) := by decide +kernel
theorem dX11_yard__59 : decode cX11_yard_ 59 = .ok (.iload_n 1, 1) := by decide +kernel
theorem dX11_yard__60 : decode cX11_yard_ 60 = .ok (.invokevirtual 304, 3) := by decide +kernel
theorem dX11_yard__63 : decode cX11_yard_ 63 = .ok (.ireturn, 1) := by decide +kernel
set_option maxRecDepth 20000 in
theorem ggX11_coach_X11_isCoach : GoodIn wsX11_coach wsX11_isCoach := goodIn_r _ [8, 9, 10, 11, 7, 12, 13, 14, 15, 16, 17, 18, 19, 20, 21, 22, 23, 24, 25, 26, 27, 28, 29, 30, 31, 32, 33, 34, 35, 36, 37, 38, 39, 40, 41, 42, 43, 44, 45, 46, 47, 48, 49, 50, 51, 52, 53, 54, 55, 56, 57, 58, 59, 60, 61, 62, 63, 64, 65, 66, 67, 68, 69, 70] (by decide +kernel) (by decide +kernel)
set_option maxRecDepth 20000 in
theorem gX11_coach_X11_isCoach : GoodIn wsX11_coach (wsV RX11 307 RX11 yX11_isCoach wsX11_isCoach) := goodIn_app (goodIn_of _ (by decide +kernel)) ggX11_coach_X11_isCoach
theorem dX11_coach_0 : decode cX11_coach 0 = .ok (.aload_n 0, 1) := by decide +kernel
theorem dX11_coach_1 : decode cX11_coach 1 = .ok (.iconst 0, 1) := by decide +kernel
theorem dX11_coach_2 : decode cX11_coach 2 = .ok (.putfield 120, 3) := by decide +kernel
theorem dX11_coach_5 : decode cX11_coach 5 = .ok (.aload_n 0, 1) := by decide +kernel
theorem dX11_coach_6 : decode cX11_coach 6 = .ok (.iload_n 1, 1) := by decide +kernel
theorem dX11_coach_7 : decode cX11_coach 7 = .ok (.invokevirtual 307, 3) := by decide +kernel
theorem dX11_coach_10 : decode cX11_coach 10 = .ok (.ifCond .eq 28, 3) := by decide +kernel
theorem dX11_coach_13 : decode cX11_coach 13 = .ok (.iload_n 2, 1) := by decide +kernel
theorem dX11_coach_14 : decode cX11_coach 14 = .ok (.i2l, 1) := by decide +kernel
theorem dX11_coach_15 : decode cX11_coach 15 = .ok (.lconst 0, 1) := by decide +kernel
theorem dX11_coach_16 : decode cX11_coach 16 = .ok (.ldc2_w 310, 3) := by decide +kernel
theorem dX11_coach_19 : decode cX11_coach 19 = .ok (.invokestatic 125, 3) := by decide +kernel
theorem dX11_coach_22 : decode cX11_coach 22 = .ok (.ifCond .eq 16, 3) := by decide +kernel
theorem dX11_coach_25 : decode cX11_coach 25 = .ok (.aload_n 0, 1) := by decide +kernel
theorem dX11_coach_26 : decode cX11_coach 26 = .ok (.getfield 61, 3) := by decide +kernel
theorem dX11_coach_29 : decode cX11_coach 29 = .ok (.iconst 5, 1) := by decide +kernel
theorem dX11_coach_30 : decode cX11_coach 30 = .ok (.iload_n 1, 1) := by decide +kernel
theorem dX11_coach_31 : decode cX11_coach 31 = .ok (.imul, 1) := by decide +kernel
theorem dX11_coach_32 : decode cX11_coach 32 = .ok (.iload_n 2, 1) := by decide +kernel
theorem dX11_coach_33 : decode cX11_coach 33 = .ok (.iadd, 1) := by decide +kernel
theorem dX11_coach_34 : decode cX11_coach 34 = .ok (.iaload, 1) := by decide +kernel
theorem dX11_coach_35 : decode cX11_coach 35 = .ok (.goto 5, 3) := by decide +kernel
theorem dX11_coach_38 : decode cX11_coach 38 = .ok (.bipush (-2), 2) := by decide +kernel
theorem dX11_coach_40 : decode cX11_coach 40 = .ok (.ireturn, 1) := by decide +kernel
set_option maxRecDepth 20000 in
theorem ggX11_rain_X11_isLine : GoodIn wsX11_rain wsX11_isLine := goodIn_r _ [8, 9, 13, 14, 15, 16, 17, 18, 19, 20, 21, 22, 23, 24, 25, 26, 27, 28, 29, 30, 31, 32, 33, 34, 35, 36, 37, 38, 39, 40, 41, 42, 43, 44, 45, 46, 47, 48, 49, 50, 51, 52, 53, 54, 55, 56, 57, 58, 59, 60, 61, 62, 63, 64, 65, 66, 67, 68, 69, 70] (by decide +kernel) (by decide +kernel)
set_option maxRecDepth 20000 in
theorem gX11_rain_X11_isLine : GoodIn wsX11_rain (wsV RX11 290 RX11 yX11_isLine wsX11_isLine) := goodIn_app (goodIn_of _ (by decide +kernel)) ggX11_rain_X11_isLine
theorem dX11_rain_0 : decode cX11_rain 0 = .ok (.aload_n 0, 1) := by decide +kernel
theorem dX11_rain_1 : decode cX11_rain 1 = .ok (.iconst 0, 1) := by decide +kernel
theorem dX11_rain_2 : decode cX11_rain 2 = .ok (.putfield 120, 3) := by decide +kernel
theorem dX11_rain_5 : decode cX11_rain 5 = .ok (.aload_n 0, 1) := by decide +kernel
theorem dX11_rain_6 : decode cX11_rain 6 = .ok (.invokevirtual 290, 3) := by decide +kernel
theorem dX11_rain_9 : decode cX11_rain 9 = .ok (.ifCond .eq 15, 3) := by decide +kernel
theorem dX11_rain_12 : decode cX11_rain 12 = .ok (.iload_n 1, 1) := by decide +kernel
theorem dX11_rain_13 : decode cX11_rain 13 = .ok (.i2l, 1) := by decide +kernel
theorem dX11_rain_14 : decode cX11_rain 14 = .ok (.lconst 0, 1) := by decide +kernel
theorem dX11_rain_15 : decode cX11_rain 15 = .ok (.ldc2_w 312, 3) := by decide +kernel
theorem dX11_rain_18 : decode cX11_rain 18 = .ok (.invokestatic 125, 3) := by decide +kernel
theorem dX11_rain_21 : decode cX11_rain 21 = .ok (.ifCond .ne 6, 3) := by decide +kernel
theorem dX11_rain_24 : decode cX11_rain 24 = .ok (.bipush (-2), 2) := by decide +kernel
theorem dX11_rain_26 : decode cX11_rain 26 = .ok (.ireturn, 1) := by decide +kernel
theorem dX11_rain_27 : decode cX11_rain 27 = .ok (.aload_n 0, 1) := by decide +kernel
theorem dX11_rain_28 : decode cX11_rain 28 = .ok (.getfield 37, 3) := by decide +kernel
theorem dX11_rain_31 : decode cX11_rain 31 = .ok (.iconst 0, 1) := by decide +kernel
theorem dX11_rain_32 : decode cX11_rain 32 = .ok (.iaload, 1) := by decide +kernel
theorem dX11_rain_33 : decode cX11_rain 33 = .ok (.istore_n 2, 1) := by decide +kernel
theorem dX11_rain_34 : decode cX11_rain 34 = .ok (.aload_n 0, 1) := by decide +kernel
theorem dX11_rain_35 : decode cX11_rain 35 = .ok (.getfield 37, 3) := by decide +kernel
theorem dX11_rain_38 : decode cX11_rain 38 = .ok (.iconst 0, 1) := by decide +kernel
theorem dX11_rain_39 : decode cX11_rain 39 = .ok (.iload_n 1, 1) := by decide +kernel
theorem dX11_rain_40 : decode cX11_rain 40 = .ok (.iastore, 1) := by decide +kernel
theorem dX11_rain_41 : decode cX11_rain 41 = .ok (.iload_n 2, 1) := by decide +kernel
theorem dX11_rain_42 : decode cX11_rain 42 = .ok (.ireturn, 1) := by decide +kernel
set_option maxRecDepth 20000 in
theorem ggX11_post_X11_isCoach : GoodIn wsX11_post wsX11_isCoach := goodIn_r _ [7, 8, 9, 10, 6, 11, 21, 22, 23, 24, 25, 26, 27, 28, 29, 30, 31, 32, 33, 34, 35, 36, 37, 38, 39, 40, 41, 42, 43, 44, 45, 46, 47, 48, 49, 50, 51, 52, 53, 54, 55, 56, 57, 58, 59, 60, 61, 62, 63, 64, 65, 66, 67, 68, 69, 70, 71, 72, 73, 74, 75, 76, 77, 78] (by decide +kernel) (by decide +kernel)
set_option maxRecDepth 20000 in
theorem gX11_post_X11_isCoach : GoodIn wsX11_post (wsV RX11 307 RX11 yX11_isCoach wsX11_isCoach) := goodIn_app (goodIn_of _ (by decide +kernel)) ggX11_post_X11_isCoach
theorem dX11_post_0 : decode cX11_post 0 = .ok (.aload_n 0, 1) := by decide +kernel
theorem dX11_post_1 : decode cX11_post 1 = .ok (.iconst 0, 1) := by decide +kernel
theorem dX11_post_2 : decode cX11_post 2 = .ok (.putfield 120, 3) := by decide +kernel
theorem dX11_post_5 : decode cX11_post 5 = .ok (.aload_n 0, 1) := by decide +kernel
theorem dX11_post_6 : decode cX11_post 6 = .ok (.iload_n 1, 1) := by decide +kernel
theorem dX11_post_7 : decode cX11_post 7 = .ok (.invokevirtual 307, 3) := by decide +kernel
theorem dX11_post_10 : decode cX11_post 10 = .ok (.ifCond .eq 11, 3) := by decide +kernel
theorem dX11_post_13 : decode cX11_post 13 = .ok (.aload_n 0, 1) := by decide +kernel
theorem dX11_post_14 : decode cX11_post 14 = .ok (.iload_n 2, 1) := by decide +kernel
theorem dX11_post_15 : decode cX11_post 15 = .ok (.invokevirtual 293, 3) := by decide +kernel
theorem dX11_post_18 : decode cX11_post 18 = .ok (.ifCond .ne 6, 3) := by decide +kernel
theorem dX11_post_21 : decode cX11_post 21 = .ok (.bipush (-2), 2) := by decide +kernel
theorem dX11_post_23 : decode cX11_post 23 = .ok (.ireturn, 1) := by decide +kernel
theorem dX11_post_24 : decode cX11_post 24 = .ok (.aload_n 0, 1) := by decide +kernel
theorem dX11_post_25 : decode cX11_post 25 = .ok (.getfield 61, 3) := by decide +kernel
theorem dX11_post_28 : decode cX11_post 28 = .ok (.iconst 5, 1) := by decide +kernel
theorem dX11_post_29 : decode cX11_post 29 = .ok (.iload_n 1, 1) := by decide +kernel
theorem dX11_post_30 : decode cX11_post 30 = .ok (.imul, 1) := by decide +kernel
theorem dX11_post_31 : decode cX11_post 31 = .ok (.iconst 3, 1) := by decide +kernel
theorem dX11_post_32 : decode cX11_post 32 = .ok (.iadd, 1) := by decide +kernel
theorem dX11_post_33 : decode cX11_post 33 = .ok (.iaload, 1) := by decide +kernel
theorem dX11_post_34 : decode cX11_post 34 = .ok (.istore_n 3, 1) := by decide +kernel
theorem dX11_post_35 : decode cX11_post 35 = .ok (.aload_n 0, 1) := by decide +kernel
theorem dX11_post_36 : decode cX11_post 36 = .ok (.getfield 61, 3) := by decide +kernel
theorem dX11_post_39 : decode cX11_post 39 = .ok (.iconst 5, 1) := by decide +kernel
theorem dX11_post_40 : decode cX11_post 40 = .ok (.iload_n 1, 1) := by decide +kernel
theorem dX11_post_41 : decode cX11_post 41 = .ok (.imul, 1) := by decide +kernel
theorem dX11_post_42 : decode cX11_post 42 = .ok (.iconst 3, 1) := by decide +kernel
theorem dX11_post_43 : decode cX11_post 43 = .ok (.iadd, 1) := by decide +kernel
theorem dX11_post_44 : decode cX11_post 44 = .ok (.iload_n 2, 1) := by decide +kernel
theorem dX11_post_45 : decode cX11_post 45 = .ok (.iastore, 1) := by decide +kernel
theorem dX11_post_46 : decode cX11_post 46 = .ok (.iload_n 3, 1) := by decide +kernel
theorem dX11_post_47 : decode cX11_post 47 = .ok (.ireturn, 1) := by decide +kernel
set_option maxRecDepth 20000 in
theorem ggX11_shift_X11_isTrain : GoodIn wsX11_shift wsX11_isTrain := goodIn_r _ [8, 9, 10, 11, 7, 12, 13, 14, 15, 16, 17, 18, 19, 20, 21, 22, 23, 24, 25, 26, 27, 28, 29, 30, 31, 32, 33, 34, 35, 36, 37, 38, 39, 40, 41, 42, 43, 44, 45, 46, 47, 48, 49, 50, 51, 52, 53, 54, 55, 56, 57, 58, 59, 60, 61, 62, 63, 64, 65, 66, 67, 68, 69, 70] (by decide +kernel) (by decide +kernel)
set_option maxRecDepth 20000 in
theorem gX11_shift_X11_isTrain : GoodIn wsX11_shift (wsV RX11 314 RX11 yX11_isTrain wsX11_isTrain) := goodIn_app (goodIn_of _ (by decide +kernel)) ggX11_shift_X11_isTrain
theorem dX11_shift_0 : decode cX11_shift 0 = .ok (.aload_n 0, 1) := by decide +kernel
theorem dX11_shift_1 : decode cX11_shift 1 = .ok (.iconst 0, 1) := by decide +kernel
theorem dX11_shift_2 : decode cX11_shift 2 = .ok (.putfield 120, 3) := by decide +kernel
theorem dX11_shift_5 : decode cX11_shift 5 = .ok (.aload_n 0, 1) := by decide +kernel
theorem dX11_shift_6 : decode cX11_shift 6 = .ok (.iload_n 1, 1) := by decide +kernel
theorem dX11_shift_7 : decode cX11_shift 7 = .ok (.invokevirtual 314, 3) := by decide +kernel
theorem dX11_shift_10 : decode cX11_shift 10 = .ok (.ifCond .eq 15, 3) := by decide +kernel
theorem dX11_shift_13 : decode cX11_shift 13 = .ok (.iload_n 2, 1) := by decide +kernel
theorem dX11_shift_14 : decode cX11_shift 14 = .ok (.i2l, 1) := by decide +kernel
theorem dX11_shift_15 : decode cX11_shift 15 = .ok (.lconst 0, 1) := by decide +kernel
theorem dX11_shift_16 : decode cX11_shift 16 = .ok (.ldc2_w 317, 3) := by decide +kernel
theorem dX11_shift_19 : decode cX11_shift 19 = .ok (.invokestatic 125, 3) := by decide +kernel
theorem dX11_shift_22 : decode cX11_shift 22 = .ok (.ifCond .ne 6, 3) := by decide +kernel
theorem dX11_shift_25 : decode cX11_shift 25 = .ok (.bipush (-2), 2) := by decide +kernel
theorem dX11_shift_27 : decode cX11_shift 27 = .ok (.ireturn, 1) := by decide +kernel
theorem dX11_shift_28 : decode cX11_shift 28 = .ok (.aload_n 0, 1) := by decide +kernel
theorem dX11_shift_29 : decode cX11_shift 29 = .ok (.getfield 58, 3) := by decide +kernel
theorem dX11_shift_32 : decode cX11_shift 32 = .ok (.iconst 3, 1) := by decide +kernel
theorem dX11_shift_33 : decode cX11_shift 33 = .ok (.iload_n 1, 1) := by decide +kernel
theorem dX11_shift_34 : decode cX11_shift 34 = .ok (.imul, 1) := by decide +kernel
theorem dX11_shift_35 : decode cX11_shift 35 = .ok (.iaload, 1) := by decide +kernel
theorem dX11_shift_36 : decode cX11_shift 36 = .ok (.istore_n 3, 1) := by decide +kernel
theorem dX11_shift_37 : decode cX11_shift 37 = .ok (.aload_n 0, 1) := by decide +kernel
theorem dX11_shift_38 : decode cX11_shift 38 = .ok (.getfield 58, 3) := by decide +kernel
theorem dX11_shift_41 : decode cX11_shift 41 = .ok (.iconst 3, 1) := by decide +kernel
theorem dX11_shift_42 : decode cX11_shift 42 = .ok (.iload_n 1, 1) := by decide +kernel
theorem dX11_shift_43 : decode cX11_shift 43 = .ok (.imul, 1) := by decide +kernel
theorem dX11_shift_44 : decode cX11_shift 44 = .ok (.iload_n 2, 1) := by decide +kernel
theorem dX11_shift_45 : decode cX11_shift 45 = .ok (.iastore, 1) := by decide +kernel
theorem dX11_shift_46 : decode cX11_shift 46 = .ok (.iload_n 3, 1) := by decide +kernel
theorem dX11_shift_47 : decode cX11_shift 47 = .ok (.ireturn, 1) := by decide +kernel
set_option maxRecDepth 20000 in
theorem ggX11_swap_X11_isCoach : GoodIn wsX11_swap wsX11_isCoach := goodIn_r _ [7, 8, 9, 10, 6, 11, 12, 13, 14, 15, 16, 17, 18, 19, 20, 21, 22, 23, 24, 25, 26, 27, 28, 29, 30, 31, 32, 33, 34, 35, 36, 37, 38, 39, 40, 41, 42, 43, 44, 45, 46, 47, 48, 49, 50, 51, 52, 53, 54, 55, 56, 57, 58, 59, 60, 61, 62, 63, 64, 65, 66, 67, 68, 69] (by decide +kernel) (by decide +kernel)
set_option maxRecDepth 20000 in
theorem gX11_swap_X11_isCoach : GoodIn wsX11_swap (wsV RX11 307 RX11 yX11_isCoach wsX11_isCoach) := goodIn_app (goodIn_of _ (by decide +kernel)) ggX11_swap_X11_isCoach
theorem dX11_swap_0 : decode cX11_swap 0 = .ok (.aload_n 0, 1) := by decide +kernel
theorem dX11_swap_1 : decode cX11_swap 1 = .ok (.iconst 0, 1) := by decide +kernel
theorem dX11_swap_2 : decode cX11_swap 2 = .ok (.putfield 120, 3) := by decide +kernel
theorem dX11_swap_5 : decode cX11_swap 5 = .ok (.aload_n 0, 1) := by decide +kernel
theorem dX11_swap_6 : decode cX11_swap 6 = .ok (.iload_n 1, 1) := by decide +kernel
theorem dX11_swap_7 : decode cX11_swap 7 = .ok (.invokevirtual 307, 3) := by decide +kernel
theorem dX11_swap_10 : decode cX11_swap 10 = .ok (.ifCond .eq 35, 3) := by decide +kernel
theorem dX11_swap_13 : decode cX11_swap 13 = .ok (.aload_n 0, 1) := by decide +kernel
theorem dX11_swap_14 : decode cX11_swap 14 = .ok (.iload_n 2, 1) := by decide +kernel
theorem dX11_swap_15 : decode cX11_swap 15 = .ok (.invokevirtual 307, 3) := by decide +kernel
theorem dX11_swap_18 : decode cX11_swap 18 = .ok (.ifCond .eq 27, 3) := by decide +kernel
theorem dX11_swap_21 : decode cX11_swap 21 = .ok (.iload_n 1, 1) := by decide +kernel
theorem dX11_swap_22 : decode cX11_swap 22 = .ok (.iload_n 2, 1) := by decide +kernel
theorem dX11_swap_23 : decode cX11_swap 23 = .ok (.if_icmp .eq 22, 3) := by decide +kernel
theorem dX11_swap_26 : decode cX11_swap 26 = .ok (.aload_n 0, 1) := by decide +kernel
theorem dX11_swap_27 : decode cX11_swap 27 = .ok (.getfield 61, 3) := by decide +kernel
theorem dX11_swap_30 : decode cX11_swap 30 = .ok (.iconst 5, 1) := by decide +kernel
theorem dX11_swap_31 : decode cX11_swap 31 = .ok (.iload_n 1, 1) := by decide +kernel
theorem dX11_swap_32 : decode cX11_swap 32 = .ok (.imul, 1) := by decide +kernel
theorem dX11_swap_33 : decode cX11_swap 33 = .ok (.iaload, 1) := by decide +kernel
theorem dX11_swap_34 : decode cX11_swap 34 = .ok (.aload_n 0, 1) := by decide +kernel
theorem dX11_swap_35 : decode cX11_swap 35 = .ok (.getfield 61, 3) := by decide +kernel
theorem dX11_swap_38 : decode cX11_swap 38 = .ok (.iconst 5, 1) := by decide +kernel
theorem dX11_swap_39 : decode cX11_swap 39 = .ok (.iload_n 2, 1) := by decide +kernel
theorem dX11_swap_40 : decode cX11_swap 40 = .ok (.imul, 1) := by decide +kernel
theorem dX11_swap_41 : decode cX11_swap 41 = .ok (.iaload, 1) := by decide +kernel
theorem dX11_swap_42 : decode cX11_swap 42 = .ok (.if_icmp .eq 6, 3) := by decide +kernel
theorem dX11_swap_45 : decode cX11_swap 45 = .ok (.bipush (-2), 2) := by decide +kernel
theorem dX11_swap_47 : decode cX11_swap 47 = .ok (.ireturn, 1) := by decide +kernel
theorem dX11_swap_48 : decode cX11_swap 48 = .ok (.aload_n 0, 1) := by decide +kernel
theorem dX11_swap_49 : decode cX11_swap 49 = .ok (.getfield 61, 3) := by decide +kernel
theorem dX11_swap_52 : decode cX11_swap 52 = .ok (.iconst 5, 1) := by decide +kernel
theorem dX11_swap_53 : decode cX11_swap 53 = .ok (.iload_n 1, 1) := by decide +kernel
theorem dX11_swap_54 : decode cX11_swap 54 = .ok (.imul, 1) := by decide +kernel
theorem dX11_swap_55 : decode cX11_swap 55 = .ok (.iconst 4, 1) := by decide +kernel
theorem dX11_swap_56 : decode cX11_swap 56 = .ok (.iadd, 1) := by decide +kernel
theorem dX11_swap_57 : decode cX11_swap 57 = .ok (.iaload, 1) := by decide +kernel
theorem dX11_swap_58 : decode cX11_swap 58 = .ok (.istore_n 3, 1) := by decide +kernel
theorem dX11_swap_59 : decode cX11_swap 59 = .ok (.aload_n 0, 1) := by decide +kernel
theorem dX11_swap_60 : decode cX11_swap 60 = .ok (.getfield 61, 3) := by decide +kernel
theorem dX11_swap_63 : decode cX11_swap 63 = .ok (.iconst 5, 1) := by decide +kernel
theorem dX11_swap_64 : decode cX11_swap 64 = .ok (.iload_n 1, 1) := by decide +kernel
theorem dX11_swap_65 : decode cX11_swap 65 = .ok (.imul, 1) := by decide +kernel
theorem dX11_swap_66 : decode cX11_swap 66 = .ok (.iconst 4, 1) := by decide +kernel
theorem dX11_swap_67 : decode cX11_swap 67 = .ok (.iadd, 1) := by decide +kernel
theorem dX11_swap_68 : decode cX11_swap 68 = .ok (.aload_n 0, 1) := by decide +kernel
theorem dX11_swap_69 : decode cX11_swap 69 = .ok (.getfield 61, 3) := by decide +kernel
theorem dX11_swap_72 : decode cX11_swap 72 = .ok (.iconst 5, 1) := by decide +kernel
theorem dX11_swap_73 : decode cX11_swap 73 = .ok (.iload_n 2, 1) := by decide +kernel
theorem dX11_swap_74 : decode cX11_swap 74 = .ok (.imul, 1) := by decide +kernel
theorem dX11_swap_75 : decode cX11_swap 75 = .ok (.iconst 4, 1) := by decide +kernel
theorem dX11_swap_76 : decode cX11_swap 76 = .ok (.iadd, 1) := by decide +kernel
theorem dX11_swap_77 : decode cX11_swap 77 = .ok (.iaload, 1) := by decide +kernel
theorem dX11_swap_78 : decode cX11_swap 78 = .ok (.iastore, 1) := by decide +kernel
theorem dX11_swap_79 : decode cX11_swap 79 = .ok (.aload_n 0, 1) := by decide +kernel
theorem dX11_swap_80 : decode cX11_swap 80 = .ok (.getfield 61, 3) := by decide +kernel
theorem dX11_swap_83 : decode cX11_swap 83 = .ok (.iconst 5, 1) := by decide +kernel
theorem dX11_swap_84 : decode cX11_swap 84 = .ok (.iload_n 2, 1) := by decide +kernel
theorem dX11_swap_85 : decode cX11_swap 85 = .ok (.imul, 1) := by decide +kernel
theorem dX11_swap_86 : decode cX11_swap 86 = .ok (.iconst 4, 1) := by decide +kernel
theorem dX11_swap_87 : decode cX11_swap 87 = .ok (.iadd, 1) := by decide +kernel
theorem dX11_swap_88 : decode cX11_swap 88 = .ok (.iload_n 3, 1) := by decide +kernel
theorem dX11_swap_89 : decode cX11_swap 89 = .ok (.iastore, 1) := by decide +kernel
theorem dX11_swap_90 : decode cX11_swap 90 = .ok (.iconst 0, 1) := by decide +kernel
theorem dX11_swap_91 : decode cX11_swap 91 = .ok (.ireturn, 1) := by decide +kernel
set_option maxRecDepth 20000 in
theorem ggX11_isMoving_X11_isKind : GoodIn wsX11_isMoving wsX11_isKind := goodIn_r _ [6, 7, 8, 9, 5, 10, 20, 21, 22, 23, 24, 25, 26, 27, 28, 29, 30, 31, 32, 33, 34, 35, 36, 37, 38, 39, 40, 41, 42, 43, 44, 45, 46, 47, 48, 49, 50, 51, 52, 53, 54, 55, 56, 57, 58, 59, 60, 61, 62, 63, 64, 65, 66, 67, 68, 69, 70, 71, 72, 73, 74, 75, 76, 77] (by decide +kernel) (by decide +kernel)
set_option maxRecDepth 20000 in
theorem gX11_isMoving_X11_isKind : GoodIn wsX11_isMoving (wsV RX11 319 RX11 yX11_isKind wsX11_isKind) := goodIn_app (goodIn_of _ (by decide +kernel)) ggX11_isMoving_X11_isKind
theorem dX11_isMoving_0 : decode cX11_isMoving 0 = .ok (.aload_n 0, 1) := by decide +kernel
theorem dX11_isMoving_1 : decode cX11_isMoving 1 = .ok (.iload_n 1, 1) := by decide +kernel
theorem dX11_isMoving_2 : decode cX11_isMoving 2 = .ok (.invokevirtual 319, 3) := by decide +kernel
theorem dX11_isMoving_5 : decode cX11_isMoving 5 = .ok (.ifCond .eq 27, 3) := by decide +kernel
theorem dX11_isMoving_8 : decode cX11_isMoving 8 = .ok (.aload_n 0, 1) := by decide +kernel
theorem dX11_isMoving_9 : decode cX11_isMoving 9 = .ok (.iload_n 2, 1) := by decide +kernel
theorem dX11_isMoving_10 : decode cX11_isMoving 10 = .ok (.invokevirtual 293, 3) := by decide +kernel
theorem dX11_isMoving_13 : decode cX11_isMoving 13 = .ok (.ifCond .eq 19, 3) := by decide +kernel
theorem dX11_isMoving_16 : decode cX11_isMoving 16 = .ok (.iload_n 3, 1) := by decide +kernel
theorem dX11_isMoving_17 : decode cX11_isMoving 17 = .ok (.i2l, 1) := by decide +kernel
theorem dX11_isMoving_18 : decode cX11_isMoving 18 = .ok (.lconst 1, 1) := by decide +kernel
theorem dX11_isMoving_19 : decode cX11_isMoving 19 = .ok (.ldc2_w 322, 3) := by decide +kernel
theorem dX11_isMoving_22 : decode cX11_isMoving 22 = .ok (.invokestatic 125, 3) := by decide +kernel
theorem dX11_isMoving_25 : decode cX11_isMoving 25 = .ok (.ifCond .eq 7, 3) := by decide +kernel
theorem dX11_isMoving_28 : decode cX11_isMoving 28 = .ok (.iconst 1, 1) := by decide +kernel
theorem dX11_isMoving_29 : decode cX11_isMoving 29 = .ok (.goto 4, 3) := by decide +kernel
theorem dX11_isMoving_32 : decode cX11_isMoving 32 = .ok (.iconst 0, 1) := by decide +kernel
theorem dX11_isMoving_33 : decode cX11_isMoving 33 = .ok (.ireturn, 1) := by decide +kernel
set_option maxRecDepth 20000 in
theorem ggX11_tick_X11_isMoving : GoodIn wsX11_tick wsX11_isMoving := goodIn_r _ [7, 8, 9, 10, 11, 6, 12, 13, 14, 15, 16, 17, 18, 19, 20, 21, 22, 23, 24, 25, 42, 43, 44, 45, 46, 47, 48, 49, 50, 51, 52, 53, 54, 55, 56, 57, 58, 59, 60, 61, 62, 63, 64, 65, 66, 67, 68, 69, 70, 71, 72, 73, 74, 75, 76, 77, 78, 79, 80, 81, 82, 83, 84, 85, 86, 87, 88, 89, 90, 91, 92, 93, 94, 95, 96, 97, 98, 99] (by decide +kernel) (by decide +kernel)
set_option maxRecDepth 20000 in
theorem gX11_tick_X11_isMoving : GoodIn wsX11_tick (wsV RX11 324 RX11 yX11_isMoving wsX11_isMoving) := goodIn_app (goodIn_of _ (by decide +kernel)) ggX11_tick_X11_isMoving
theorem dX11_tick_0 : decode cX11_tick 0 = .ok (.aload_n 0, 1) := by decide +kernel
theorem dX11_tick_1 : decode cX11_tick 1 = .ok (.iconst 0, 1) := by decide +kernel
theorem dX11_tick_2 : decode cX11_tick 2 = .ok (.putfield 120, 3) := by decide +kernel
theorem dX11_tick_5 : decode cX11_tick 5 = .ok (.aload_n 0, 1) := by decide +kernel
theorem dX11_tick_6 : decode cX11_tick 6 = .ok (.iload_n 1, 1) := by decide +kernel
theorem dX11_tick_7 : decode cX11_tick 7 = .ok (.iload_n 2, 1) := by decide +kernel
theorem dX11_tick_8 : decode cX11_tick 8 = .ok (.iload_n 3, 1) := by decide +kernel
theorem dX11_tick_9 : decode cX11_tick 9 = .ok (.invokevirtual 324, 3) := by decide +kernel
theorem dX11_tick_12 : decode cX11_tick 12 = .ok (.ifCond .eq 27, 3) := by decide +kernel
theorem dX11_tick_15 : decode cX11_tick 15 = .ok (.iload 4, 2) := by decide +kernel
theorem dX11_tick_17 : decode cX11_tick 17 = .ok (.i2l, 1) := by decide +kernel
theorem dX11_tick_18 : decode cX11_tick 18 = .ok (.lconst 0, 1) := by decide +kernel
theorem dX11_tick_19 : decode cX11_tick 19 = .ok (.ldc2_w 123, 3) := by decide +kernel
theorem dX11_tick_22 : decode cX11_tick 22 = .ok (.invokestatic 125, 3) := by decide +kernel
theorem dX11_tick_25 : decode cX11_tick 25 = .ok (.ifCond .eq 14, 3) := by decide +kernel
theorem dX11_tick_28 : decode cX11_tick 28 = .ok (.iload 5, 2) := by decide +kernel
theorem dX11_tick_30 : decode cX11_tick 30 = .ok (.i2l, 1) := by decide +kernel
theorem dX11_tick_31 : decode cX11_tick 31 = .ok (.lconst 0, 1) := by decide +kernel
theorem dX11_tick_32 : decode cX11_tick 32 = .ok (.lconst 1, 1) := by decide +kernel
theorem dX11_tick_33 : decode cX11_tick 33 = .ok (.invokestatic 125, 3) := by decide +kernel
theorem dX11_tick_36 : decode cX11_tick 36 = .ok (.ifCond .ne 6, 3) := by decide +kernel
theorem dX11_tick_39 : decode cX11_tick 39 = .ok (.bipush (-2), 2) := by decide +kernel
theorem dX11_tick_41 : decode cX11_tick 41 = .ok (.ireturn, 1) := by decide +kernel
theorem dX11_tick_42 : decode cX11_tick 42 = .ok (.aload_n 0, 1) := by decide +kernel
theorem dX11_tick_43 : decode cX11_tick 43 = .ok (.iload_n 1, 1) := by decide +kernel
theorem dX11_tick_44 : decode cX11_tick 44 = .ok (.iload_n 2, 1) := by decide +kernel
theorem dX11_tick_45 : decode cX11_tick 45 = .ok (.iload_n 3, 1) := by decide +kernel
theorem dX11_tick_46 : decode cX11_tick 46 = .ok (.iload 4, 2) := by decide +kernel
theorem dX11_tick_48 : decode cX11_tick 48 = .ok (.invokevirtual 327, 3) := by decide +kernel
theorem dX11_tick_51 : decode cX11_tick 51 = .ok (.istore 6, 2) := by decide +kernel
theorem dX11_tick_53 : decode cX11_tick 53 = .ok (.iload 5, 2) := by decide +kernel
theorem dX11_tick_55 : decode cX11_tick 55 = .ok (.iconst 1, 1) := by decide +kernel
theorem dX11_tick_56 : decode cX11_tick 56 = .ok (.if_icmp .ne 8, 3) := by decide +kernel
theorem dX11_tick_59 : decode cX11_tick 59 = .ok (.iload 6, 2) := by decide +kernel
theorem dX11_tick_61 : decode cX11_tick 61 = .ok (.goto 7, 3) := by decide +kernel
theorem dX11_tick_64 : decode cX11_tick 64 = .ok (.iload_n 2, 1) := by decide +kernel
theorem dX11_tick_65 : decode cX11_tick 65 = .ok (.iload 6, 2) := by decide +kernel
theorem dX11_tick_67 : decode cX11_tick 67 = .ok (.iadd, 1) := by decide +kernel
theorem dX11_tick_68 : decode cX11_tick 68 = .ok (.ireturn, 1) := by decide +kernel
set_option maxRecDepth 20000 in
theorem ggX11_isHandled_X11_isMoving : GoodIn wsX11_isHandled wsX11_isMoving := goodIn_r _ [5, 6, 7, 8, 9, 4, 10, 11, 12, 13, 14, 15, 16, 17, 18, 19, 20, 21, 22, 23, 28, 29, 30, 31, 32, 33, 34, 35, 36, 37, 38, 39, 40, 41, 42, 43, 44, 45, 46, 47, 48, 49, 50, 51, 52, 53, 54, 55, 56, 57, 58, 59, 60, 61, 62, 63, 64, 65, 66, 67, 68, 69, 70, 71, 72, 73, 74, 75, 76, 77, 78, 79, 80, 81, 82, 83, 84, 85] (by decide +kernel) (by decide +kernel)
set_option maxRecDepth 20000 in
theorem gX11_isHandled_X11_isMoving : GoodIn wsX11_isHandled (wsV RX11 324 RX11 yX11_isMoving wsX11_isMoving) := goodIn_app (goodIn_of _ (by decide +kernel)) ggX11_isHandled_X11_isMoving
theorem dX11_isHandled_0 : decode cX11_isHandled 0 = .ok (.aload_n 0, 1) := by decide +kernel
theorem dX11_isHandled_1 : decode cX11_isHandled 1 = .ok (.iload_n 1, 1) := by decide +kernel
theorem dX11_isHandled_2 : decode cX11_isHandled 2 = .ok (.iload_n 3, 1) := by decide +kernel
theorem dX11_isHandled_3 : decode cX11_isHandled 3 = .ok (.iload 4, 2) := by decide +kernel
theorem dX11_isHandled_5 : decode cX11_isHandled 5 = .ok (.invokevirtual 324, 3) := by decide +kernel
theorem dX11_isHandled_8 : decode cX11_isHandled 8 = .ok (.ifCond .eq 15, 3) := by decide +kernel
theorem dX11_isHandled_11 : decode cX11_isHandled 11 = .ok (.aload_n 0, 1) := by decide +kernel
theorem dX11_isHandled_12 : decode cX11_isHandled 12 = .ok (.iload_n 2, 1) := by decide +kernel
theorem dX11_isHandled_13 : decode cX11_isHandled 13 = .ok (.invokevirtual 352, 3) := by decide +kernel
theorem dX11_isHandled_16 : decode cX11_isHandled 16 = .ok (.ifCond .eq 7, 3) := by decide +kernel
theorem dX11_isHandled_19 : decode cX11_isHandled 19 = .ok (.iconst 1, 1) := by decide +kernel
theorem dX11_isHandled_20 : decode cX11_isHandled 20 = .ok (.goto 4, 3) := by decide +kernel
theorem dX11_isHandled_23 : decode cX11_isHandled 23 = .ok (.iconst 0, 1) := by decide +kernel
theorem dX11_isHandled_24 : decode cX11_isHandled 24 = .ok (.ireturn, 1) := by decide +kernel
set_option maxRecDepth 20000 in
theorem ggX11_can_X11_isHandled : GoodIn wsX11_can wsX11_isHandled := goodIn_r _ [7, 8, 9, 10, 6, 11, 12, 13, 14, 15, 16, 17, 18, 19, 20, 21, 22, 23, 24, 25, 26, 27, 28, 29, 30, 31, 32, 33, 77, 78, 79, 80, 81, 82, 83, 84, 85, 86, 87, 88, 89, 90, 91, 92, 93, 94, 95, 96, 97, 98, 99, 100, 101, 102, 103, 104, 105, 106, 107, 108, 109, 110, 111, 112, 113, 114, 115, 116, 117, 118, 119, 120, 121, 122, 123, 124, 125, 126, 127, 128, 129, 130, 131, 132, 133, 134] (by decide +kernel) (by decide +kernel)
set_option maxRecDepth 20000 in
theorem gX11_can_X11_isHandled : GoodIn wsX11_can (wsV RX11 355 RX11 yX11_isHandled wsX11_isHandled) := goodIn_app (goodIn_of _ (by decide +kernel)) ggX11_can_X11_isHandled
theorem dX11_can_0 : decode cX11_can 0 = .ok (.aload_n 0, 1) := by decide +kernel
theorem dX11_can_1 : decode cX11_can 1 = .ok (.iconst 0, 1) := by decide +kernel
theorem dX11_can_2 : decode cX11_can 2 = .ok (.putfield 120, 3) := by decide +kernel
theorem dX11_can_5 : decode cX11_can 5 = .ok (.aload_n 0, 1) := by decide +kernel
theorem dX11_can_6 : decode cX11_can 6 = .ok (.iload_n 1, 1) := by decide +kernel
theorem dX11_can_7 : decode cX11_can 7 = .ok (.iload_n 2, 1) := by decide +kernel
theorem dX11_can_8 : decode cX11_can 8 = .ok (.iload_n 3, 1) := by decide +kernel
theorem dX11_can_9 : decode cX11_can 9 = .ok (.iload 4, 2) := by decide +kernel
theorem dX11_can_11 : decode cX11_can 11 = .ok (.invokevirtual 355, 3) := by decide +kernel
theorem dX11_can_14 : decode cX11_can 14 = .ok (.ifCond .ne 6, 3) := by decide +kernel
theorem dX11_can_17 : decode cX11_can 17 = .ok (.bipush (-2), 2) := by decide +kernel
theorem dX11_can_19 : decode cX11_can 19 = .ok (.ireturn, 1) := by decide +kernel
theorem dX11_can_20 : decode cX11_can 20 = .ok (.aload_n 0, 1) := by decide +kernel
theorem dX11_can_21 : decode cX11_can 21 = .ok (.bipush 16, 2) := by decide +kernel
theorem dX11_can_23 : decode cX11_can 23 = .ok (.iload_n 1, 1) := by decide +kernel
theorem dX11_can_24 : decode cX11_can 24 = .ok (.iload_n 2, 1) := by decide +kernel
theorem dX11_can_25 : decode cX11_can 25 = .ok (.iconst 3, 1) := by decide +kernel
theorem dX11_can_26 : decode cX11_can 26 = .ok (.invokevirtual 359, 3) := by decide +kernel
theorem dX11_can_29 : decode cX11_can 29 = .ok (.aload_n 0, 1) := by decide +kernel
theorem dX11_can_30 : decode cX11_can 30 = .ok (.bipush 16, 2) := by decide +kernel
theorem dX11_can_32 : decode cX11_can 32 = .ok (.iload_n 3, 1) := by decide +kernel
theorem dX11_can_33 : decode cX11_can 33 = .ok (.iload 4, 2) := by decide +kernel
theorem dX11_can_35 : decode cX11_can 35 = .ok (.invokevirtual 348, 3) := by decide +kernel
theorem dX11_can_38 : decode cX11_can 38 = .ok (.ldc 171, 2) := by decide +kernel
theorem dX11_can_40 : decode cX11_can 40 = .ok (.if_icmp .ge 7, 3) := by decide +kernel
theorem dX11_can_43 : decode cX11_can 43 = .ok (.iconst 1, 1) := by decide +kernel
theorem dX11_can_44 : decode cX11_can 44 = .ok (.goto 4, 3) := by decide +kernel
theorem dX11_can_47 : decode cX11_can 47 = .ok (.iconst 0, 1) := by decide +kernel
theorem dX11_can_48 : decode cX11_can 48 = .ok (.ireturn, 1) := by decide +kernel
set_option maxRecDepth 20000 in
theorem ggX11_step_X11_isHandled : GoodIn wsX11_step wsX11_isHandled := goodIn_r _ [6, 7, 8, 9, 5, 10, 11, 12, 13, 14, 15, 16, 17, 18, 19, 20, 21, 22, 23, 24, 25, 26, 27, 28, 29, 30, 31, 32, 81, 82, 83, 84, 85, 86, 87, 88, 89, 90, 91, 92, 93, 94, 95, 96, 97, 98, 99, 100, 101, 102, 103, 104, 105, 106, 107, 108, 109, 110, 111, 112, 113, 114, 115, 116, 117, 118, 119, 120, 121, 122, 123, 124, 125, 126, 127, 128, 129, 130, 131, 132, 133, 134, 135, 136, 137, 138] (by decide +kernel) (by decide +kernel)
set_option maxRecDepth 20000 in
theorem gX11_step_X11_isHandled : GoodIn wsX11_step (wsV RX11 355 RX11 yX11_isHandled wsX11_isHandled) := goodIn_app (goodIn_of _ (by decide +kernel)) ggX11_step_X11_isHandled
theorem dX11_step_0 : decode cX11_step 0 = .ok (.aload_n 0, 1) := by decide +kernel
theorem dX11_step_1 : decode cX11_step 1 = .ok (.iconst 0, 1) := by decide +kernel
theorem dX11_step_2 : decode cX11_step 2 = .ok (.putfield 120, 3) := by decide +kernel
theorem dX11_step_5 : decode cX11_step 5 = .ok (.aload_n 0, 1) := by decide +kernel
theorem dX11_step_6 : decode cX11_step 6 = .ok (.iload_n 1, 1) := by decide +kernel
theorem dX11_step_7 : decode cX11_step 7 = .ok (.iload_n 2, 1) := by decide +kernel
theorem dX11_step_8 : decode cX11_step 8 = .ok (.iload_n 3, 1) := by decide +kernel
theorem dX11_step_9 : decode cX11_step 9 = .ok (.iload 4, 2) := by decide +kernel
theorem dX11_step_11 : decode cX11_step 11 = .ok (.invokevirtual 355, 3) := by decide +kernel
theorem dX11_step_14 : decode cX11_step 14 = .ok (.ifCond .ne 6, 3) := by decide +kernel
theorem dX11_step_17 : decode cX11_step 17 = .ok (.bipush (-2), 2) := by decide +kernel
theorem dX11_step_19 : decode cX11_step 19 = .ok (.ireturn, 1) := by decide +kernel
theorem dX11_step_20 : decode cX11_step 20 = .ok (.aload_n 0, 1) := by decide +kernel
theorem dX11_step_21 : decode cX11_step 21 = .ok (.bipush 16, 2) := by decide +kernel
theorem dX11_step_23 : decode cX11_step 23 = .ok (.iload_n 1, 1) := by decide +kernel
theorem dX11_step_24 : decode cX11_step 24 = .ok (.iload_n 2, 1) := by decide +kernel
theorem dX11_step_25 : decode cX11_step 25 = .ok (.iconst 3, 1) := by decide +kernel
theorem dX11_step_26 : decode cX11_step 26 = .ok (.invokevirtual 359, 3) := by decide +kernel
theorem dX11_step_29 : decode cX11_step 29 = .ok (.aload_n 0, 1) := by decide +kernel
theorem dX11_step_30 : decode cX11_step 30 = .ok (.bipush 16, 2) := by decide +kernel
theorem dX11_step_32 : decode cX11_step 32 = .ok (.iload_n 1, 1) := by decide +kernel
theorem dX11_step_33 : decode cX11_step 33 = .ok (.iload_n 2, 1) := by decide +kernel
theorem dX11_step_34 : decode cX11_step 34 = .ok (.iload_n 3, 1) := by decide +kernel
theorem dX11_step_35 : decode cX11_step 35 = .ok (.iload 4, 2) := by decide +kernel
theorem dX11_step_37 : decode cX11_step 37 = .ok (.invokevirtual 363, 3) := by decide +kernel
theorem dX11_step_40 : decode cX11_step 40 = .ok (.ireturn, 1) := by decide +kernel
set_option maxRecDepth 20000 in
theorem ggX11_handled_X11_isHandled : GoodIn wsX11_handled wsX11_isHandled := goodIn_r _ [8, 9, 10, 11, 7, 12, 13, 14, 15, 16, 17, 18, 19, 20, 21, 22, 23, 24, 25, 26, 27, 28, 29, 30, 31, 32, 33, 34, 82, 83, 84, 85, 86, 87, 88, 89, 90, 91, 92, 93, 94, 95, 96, 97, 98, 99, 100, 101, 102, 103, 104, 105, 106, 107, 108, 109, 110, 111, 112, 113, 114, 115, 116, 117, 118, 119, 120, 121, 122, 123, 124, 125, 126, 127, 128, 129, 130, 131, 132, 133, 134, 135, 136, 137, 138, 139] (by decide +kernel) (by decide +kernel)
set_option maxRecDepth 20000 in
theorem gX11_handled_X11_isHandled : GoodIn wsX11_handled (wsV RX11 355 RX11 yX11_isHandled wsX11_isHandled) := goodIn_app (goodIn_of _ (by decide +kernel)) ggX11_handled_X11_isHandled
theorem dX11_handled_0 : decode cX11_handled 0 = .ok (.aload_n 0, 1) := by decide +kernel
theorem dX11_handled_1 : decode cX11_handled 1 = .ok (.iconst 0, 1) := by decide +kernel
theorem dX11_handled_2 : decode cX11_handled 2 = .ok (.putfield 120, 3) := by decide +kernel
theorem dX11_handled_5 : decode cX11_handled 5 = .ok (.aload_n 0, 1) := by decide +kernel
theorem dX11_handled_6 : decode cX11_handled 6 = .ok (.iload_n 1, 1) := by decide +kernel
theorem dX11_handled_7 : decode cX11_handled 7 = .ok (.iload_n 2, 1) := by decide +kernel
theorem dX11_handled_8 : decode cX11_handled 8 = .ok (.iload_n 3, 1) := by decide +kernel
theorem dX11_handled_9 : decode cX11_handled 9 = .ok (.iload 4, 2) := by decide +kernel
theorem dX11_handled_11 : decode cX11_handled 11 = .ok (.invokevirtual 355, 3) := by decide +kernel
theorem dX11_handled_14 : decode cX11_handled 14 = .ok (.ifCond .eq 16, 3) := by decide +kernel
theorem dX11_handled_17 : decode cX11_handled 17 = .ok (.iload 5, 2) := by decide +kernel
theorem dX11_handled_19 : decode cX11_handled 19 = .ok (.i2l, 1) := by decide +kernel
theorem dX11_handled_20 : decode cX11_handled 20 = .ok (.lconst 0, 1) := by decide +kernel
theorem dX11_handled_21 : decode cX11_handled 21 = .ok (.ldc2_w 296, 3) := by decide +kernel
theorem dX11_handled_24 : decode cX11_handled 24 = .ok (.invokestatic 125, 3) := by decide +kernel
theorem dX11_handled_27 : decode cX11_handled 27 = .ok (.ifCond .ne 6, 3) := by decide +kernel
theorem dX11_handled_30 : decode cX11_handled 30 = .ok (.bipush (-2), 2) := by decide +kernel
theorem dX11_handled_32 : decode cX11_handled 32 = .ok (.ireturn, 1) := by decide +kernel
theorem dX11_handled_33 : decode cX11_handled 33 = .ok (.aload_n 0, 1) := by decide +kernel
theorem dX11_handled_34 : decode cX11_handled 34 = .ok (.bipush 16, 2) := by decide +kernel
theorem dX11_handled_36 : decode cX11_handled 36 = .ok (.iload_n 1, 1) := by decide +kernel
theorem dX11_handled_37 : decode cX11_handled 37 = .ok (.iload_n 2, 1) := by decide +kernel
theorem dX11_handled_38 : decode cX11_handled 38 = .ok (.iconst 3, 1) := by decide +kernel
theorem dX11_handled_39 : decode cX11_handled 39 = .ok (.invokevirtual 359, 3) := by decide +kernel
theorem dX11_handled_42 : decode cX11_handled 42 = .ok (.aload_n 0, 1) := by decide +kernel
theorem dX11_handled_43 : decode cX11_handled 43 = .ok (.bipush 16, 2) := by decide +kernel
theorem dX11_handled_45 : decode cX11_handled 45 = .ok (.iload_n 3, 1) := by decide +kernel
theorem dX11_handled_46 : decode cX11_handled 46 = .ok (.iload 4, 2) := by decide +kernel
theorem dX11_handled_48 : decode cX11_handled 48 = .ok (.invokevirtual 348, 3) := by decide +kernel
theorem dX11_handled_51 : decode cX11_handled 51 = .ok (.ldc 171, 2) := by decide +kernel
theorem dX11_handled_53 : decode cX11_handled 53 = .ok (.if_icmp .lt 5, 3) := by decide +kernel
theorem dX11_handled_56 : decode cX11_handled 56 = .ok (.iconst (-1), 1) := by decide +kernel
theorem dX11_handled_57 : decode cX11_handled 57 = .ok (.ireturn, 1) := by decide +kernel
theorem dX11_handled_58 : decode cX11_handled 58 = .ok (.iload 5, 2) := by decide +kernel
theorem dX11_handled_60 : decode cX11_handled 60 = .ok (.ifCond .ne 13, 3) := by decide +kernel
theorem dX11_handled_63 : decode cX11_handled 63 = .ok (.aload_n 0, 1) := by decide +kernel
theorem dX11_handled_64 : decode cX11_handled 64 = .ok (.bipush 16, 2) := by decide +kernel
theorem dX11_handled_66 : decode cX11_handled 66 = .ok (.iload_n 3, 1) := by decide +kernel
theorem dX11_handled_67 : decode cX11_handled 67 = .ok (.iload 4, 2) := by decide +kernel
theorem dX11_handled_69 : decode cX11_handled 69 = .ok (.invokevirtual 348, 3) := by decide +kernel
theorem dX11_handled_72 : decode cX11_handled 72 = .ok (.ireturn, 1) := by decide +kernel
theorem dX11_handled_73 : decode cX11_handled 73 = .ok (.iload_n 3, 1) := by decide +kernel
theorem dX11_handled_74 : decode cX11_handled 74 = .ok (.istore 6, 2) := by decide +kernel
theorem dX11_handled_76 : decode cX11_handled 76 = .ok (.iload 4, 2) := by decide +kernel
theorem dX11_handled_78 : decode cX11_handled 78 = .ok (.istore 7, 2) := by decide +kernel
theorem dX11_handled_80 : decode cX11_handled 80 = .ok (.iconst 0, 1) := by decide +kernel
theorem dX11_handled_81 : decode cX11_handled 81 = .ok (.istore 8, 2) := by decide +kernel
theorem dX11_handled_83 : decode cX11_handled 83 = .ok (.iload 7, 2) := by decide +kernel
theorem dX11_handled_85 : decode cX11_handled 85 = .ok (.ifCond .le 39, 3) := by decide +kernel
theorem dX11_handled_88 : decode cX11_handled 88 = .ok (.aload_n 0, 1) := by decide +kernel
theorem dX11_handled_89 : decode cX11_handled 89 = .ok (.iload_n 1, 1) := by decide +kernel
theorem dX11_handled_90 : decode cX11_handled 90 = .ok (.iload 6, 2) := by decide +kernel
theorem dX11_handled_92 : decode cX11_handled 92 = .ok (.iload 7, 2) := by decide +kernel
theorem dX11_handled_94 : decode cX11_handled 94 = .ok (.aload_n 0, 1) := by decide +kernel
theorem dX11_handled_95 : decode cX11_handled 95 = .ok (.bipush 16, 2) := by decide +kernel
theorem dX11_handled_97 : decode cX11_handled 97 = .ok (.iload_n 1, 1) := by decide +kernel
theorem dX11_handled_98 : decode cX11_handled 98 = .ok (.iload_n 2, 1) := by decide +kernel
theorem dX11_handled_99 : decode cX11_handled 99 = .ok (.iload 6, 2) := by decide +kernel
theorem dX11_handled_101 : decode cX11_handled 101 = .ok (.iload 7, 2) := by decide +kernel
theorem dX11_handled_103 : decode cX11_handled 103 = .ok (.invokevirtual 363, 3) := by decide +kernel
theorem dX11_handled_106 : decode cX11_handled 106 = .ok (.invokevirtual 327, 3) := by decide +kernel
theorem dX11_handled_109 : decode cX11_handled 109 = .ok (.istore 7, 2) := by decide +kernel
theorem dX11_handled_111 : decode cX11_handled 111 = .ok (.iload 6, 2) := by decide +kernel
theorem dX11_handled_113 : decode cX11_handled 113 = .ok (.iload 7, 2) := by decide +kernel
theorem dX11_handled_115 : decode cX11_handled 115 = .ok (.iadd, 1) := by decide +kernel
theorem dX11_handled_116 : decode cX11_handled 116 = .ok (.istore 6, 2) := by decide +kernel
theorem dX11_handled_118 : decode cX11_handled 118 = .ok (.iinc 8 1, 3) := by decide +kernel
theorem dX11_handled_121 : decode cX11_handled 121 = .ok (.goto (-38), 3) := by decide +kernel
theorem dX11_handled_124 : decode cX11_handled 124 = .ok (.iload 5, 2) := by decide +kernel
theorem dX11_handled_126 : decode cX11_handled 126 = .ok (.iconst 1, 1) := by decide +kernel
theorem dX11_handled_127 : decode cX11_handled 127 = .ok (.if_icmp .ne 8, 3) := by decide +kernel
theorem dX11_handled_130 : decode cX11_handled 130 = .ok (.iload 8, 2) := by decide +kernel
theorem dX11_handled_132 : decode cX11_handled 132 = .ok (.goto 5, 3) := by decide +kernel
theorem dX11_handled_135 : decode cX11_handled 135 = .ok (.iload 6, 2) := by decide +kernel
theorem dX11_handled_137 : decode cX11_handled 137 = .ok (.ireturn, 1) := by decide +kernel
set_option maxRecDepth 20000 in
theorem ggX11_hard_X11_isHandled : GoodIn wsX11_hard wsX11_isHandled := goodIn_r _ [7, 8, 9, 10, 6, 11, 12, 13, 14, 15, 16, 17, 18, 19, 20, 21, 22, 23, 24, 25, 26, 27, 28, 29, 30, 31, 32, 33, 77, 78, 79, 80, 81, 82, 83, 84, 85, 86, 87, 88, 89, 90, 91, 92, 93, 94, 95, 96, 97, 98, 99, 100, 101, 102, 103, 104, 105, 106, 107, 108, 109, 110, 111, 112, 113, 114, 115, 116, 117, 118, 119, 120, 121, 122, 123, 124, 125, 126, 127, 128, 129, 130, 131, 132, 133, 134] (by decide +kernel) (by decide +kernel)
set_option maxRecDepth 20000 in
theorem gX11_hard_X11_isHandled : GoodIn wsX11_hard (wsV RX11 355 RX11 yX11_isHandled wsX11_isHandled) := goodIn_app (goodIn_of _ (by decide +kernel)) ggX11_hard_X11_isHandled
theorem dX11_hard_0 : decode cX11_hard 0 = .ok (.aload_n 0, 1) := by decide +kernel
theorem dX11_hard_1 : decode cX11_hard 1 = .ok (.iconst 0, 1) := by decide +kernel
theorem dX11_hard_2 : decode cX11_hard 2 = .ok (.putfield 120, 3) := by decide +kernel
theorem dX11_hard_5 : decode cX11_hard 5 = .ok (.aload_n 0, 1) := by decide +kernel
theorem dX11_hard_6 : decode cX11_hard 6 = .ok (.iload_n 1, 1) := by decide +kernel
