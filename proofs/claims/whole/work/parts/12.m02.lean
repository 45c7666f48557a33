set_option maxRecDepth 20000 in
theorem ggX11_comes_X11_houseComes : GoodIn wsX11_comes wsX11_houseComes := goodIn_r _ [9, 10, 11, 12, 13, 14, 15, 8, 16, 17, 18, 19, 20, 94, 95, 96, 97, 98, 99, 100, 101, 102, 103, 104, 105, 106, 107, 108, 109, 110, 111, 112, 113, 114, 115, 116, 117, 118, 119, 120, 121, 122, 123, 124, 125, 126, 127, 128, 129, 130] (by decide +kernel) (by decide +kernel)
set_option maxRecDepth 20000 in
theorem gX11_comes_X11_houseComes : GoodIn wsX11_comes (wsV RX11 180 RX11 yX11_houseComes wsX11_houseComes) := goodIn_app (goodIn_of _ (by decide +kernel)) ggX11_comes_X11_houseComes
set_option maxRecDepth 20000 in
theorem ggX11_comes_X11_cellComes : GoodIn wsX11_comes wsX11_cellComes := goodIn_r _ [24, 25, 26, 94, 95, 96, 97, 98, 99, 100, 101, 102, 103, 104, 105, 106, 107, 108, 109, 110, 111, 112, 113, 114, 115, 116, 117, 118, 119, 120, 121, 122, 123, 124, 125, 126, 127, 128, 129, 130] (by decide +kernel) (by decide +kernel)
set_option maxRecDepth 20000 in
theorem gX11_comes_X11_cellComes : GoodIn wsX11_comes (wsV RX11 184 RX11 yX11_cellComes wsX11_cellComes) := goodIn_app (goodIn_of _ (by decide +kernel)) ggX11_comes_X11_cellComes
set_option maxRecDepth 20000 in
theorem ggX11_comes_X11_comesSet : GoodIn wsX11_comes wsX11_comesSet := goodIn_r _ [30, 31, 32, 33, 8, 34, 35, 36, 37, 18, 19, 20, 94, 95, 96, 97, 98, 99, 100, 101, 102, 103, 104, 105, 106, 107, 108, 109, 110, 111, 112, 113, 114, 115, 116, 117, 118, 119, 120, 121, 122, 123, 124, 125, 126, 127, 128, 129, 130] (by decide +kernel) (by decide +kernel)
set_option maxRecDepth 20000 in
theorem gX11_comes_X11_comesSet : GoodIn wsX11_comes (wsV RX11 188 RX11 yX11_comesSet wsX11_comesSet) := goodIn_app (goodIn_of _ (by decide +kernel)) ggX11_comes_X11_comesSet
set_option maxRecDepth 20000 in
theorem ggX11_comes_X11_minutesCome : GoodIn wsX11_comes wsX11_minutesCome := goodIn_r _ [41, 4, 42, 43, 44, 45, 8, 46, 2, 47, 48, 49, 50, 51, 52, 53, 54, 55, 56, 57, 58, 59, 60, 61, 62, 63, 64, 65, 66, 67, 68, 69, 70, 31, 71, 72, 73, 74, 75, 76, 77, 78, 79, 80, 81, 82, 83, 84, 85, 86, 87, 88, 89, 26, 25, 90, 91, 92, 93, 94, 95, 96, 97, 98, 99, 100, 101, 102, 103, 104, 105, 106, 107, 108, 109, 110, 111, 112, 113, 114, 115, 116, 117, 118, 119, 120, 121, 122, 123, 124, 125, 126, 127, 128, 129, 130] (by decide +kernel) (by decide +kernel)
set_option maxRecDepth 20000 in
theorem gX11_comes_X11_minutesCome : GoodIn wsX11_comes (wsV RX11 191 RX11 yX11_minutesCome wsX11_minutesCome) := goodIn_app (goodIn_of _ (by decide +kernel)) ggX11_comes_X11_minutesCome
set_option maxRecDepth 20000 in
theorem ggX11_comes_X11_settle : GoodIn wsX11_comes wsX11_settle := goodIn_r _ [50, 2, 51, 52, 53, 8, 54, 55, 56, 57, 58, 59, 60, 61, 62, 63, 64, 65, 66, 67, 68, 69, 70, 31, 71, 72, 73, 74, 75, 76, 77, 78, 79, 80, 81, 82, 83, 84, 4, 42, 85, 86, 87, 88, 89, 26, 25, 90, 91, 92, 93, 94, 95, 96, 97, 98, 99, 100, 101, 102, 103, 104, 105, 106, 107, 108, 109, 110, 111, 112, 113, 114, 115, 116, 117, 118, 119, 120, 121, 122, 123, 124, 125, 126, 127, 128, 129, 130] (by decide +kernel) (by decide +kernel)
set_option maxRecDepth 20000 in
theorem gX11_comes_X11_settle : GoodIn wsX11_comes (wsV RX11 173 RX11 yX11_settle wsX11_settle) := goodIn_app (goodIn_of _ (by decide +kernel)) ggX11_comes_X11_settle
theorem dX11_comes_0 : decode cX11_comes 0 = .ok (.aload_n 0, 1) := by decide +kernel
theorem dX11_comes_1 : decode cX11_comes 1 = .ok (.getfield 59, 3) := by decide +kernel
theorem dX11_comes_4 : decode cX11_comes 4 = .ok (.iconst 3, 1) := by decide +kernel
theorem dX11_comes_5 : decode cX11_comes 5 = .ok (.iload_n 1, 1) := by decide +kernel
theorem dX11_comes_6 : decode cX11_comes 6 = .ok (.imul, 1) := by decide +kernel
theorem dX11_comes_7 : decode cX11_comes 7 = .ok (.iaload, 1) := by decide +kernel
theorem dX11_comes_8 : decode cX11_comes 8 = .ok (.istore_n 2, 1) := by decide +kernel
theorem dX11_comes_9 : decode cX11_comes 9 = .ok (.aload_n 0, 1) := by decide +kernel
theorem dX11_comes_10 : decode cX11_comes 10 = .ok (.getfield 59, 3) := by decide +kernel
theorem dX11_comes_13 : decode cX11_comes 13 = .ok (.iconst 3, 1) := by decide +kernel
theorem dX11_comes_14 : decode cX11_comes 14 = .ok (.iload_n 1, 1) := by decide +kernel
theorem dX11_comes_15 : decode cX11_comes 15 = .ok (.imul, 1) := by decide +kernel
theorem dX11_comes_16 : decode cX11_comes 16 = .ok (.iconst 1, 1) := by decide +kernel
theorem dX11_comes_17 : decode cX11_comes 17 = .ok (.iadd, 1) := by decide +kernel
theorem dX11_comes_18 : decode cX11_comes 18 = .ok (.iaload, 1) := by decide +kernel
theorem dX11_comes_19 : decode cX11_comes 19 = .ok (.istore_n 3, 1) := by decide +kernel
theorem dX11_comes_20 : decode cX11_comes 20 = .ok (.aload_n 0, 1) := by decide +kernel
theorem dX11_comes_21 : decode cX11_comes 21 = .ok (.getfield 122, 3) := by decide +kernel
theorem dX11_comes_24 : decode cX11_comes 24 = .ok (.ifCond .ne 7, 3) := by decide +kernel
theorem dX11_comes_27 : decode cX11_comes 27 = .ok (.iconst 1, 1) := by decide +kernel
theorem dX11_comes_28 : decode cX11_comes 28 = .ok (.goto 4, 3) := by decide +kernel
theorem dX11_comes_31 : decode cX11_comes 31 = .ok (.iconst 0, 1) := by decide +kernel
theorem dX11_comes_32 : decode cX11_comes 32 = .ok (.istore 4, 2) := by decide +kernel
theorem dX11_comes_34 : decode cX11_comes 34 = .ok (.aload_n 0, 1) := by decide +kernel
theorem dX11_comes_35 : decode cX11_comes 35 = .ok (.getfield 56, 3) := by decide +kernel
theorem dX11_comes_38 : decode cX11_comes 38 = .ok (.iload_n 1, 1) := by decide +kernel
theorem dX11_comes_39 : decode cX11_comes 39 = .ok (.iaload, 1) := by decide +kernel
theorem dX11_comes_40 : decode cX11_comes 40 = .ok (.tableswitch 315 97 119 #[263, 315, 115, 315, 315, 288, 215, 239, 315, 315, 315, 149, 315, 315, 108, 315, 315, 315, 315, 315, 315, 315, 182], 108) := by decide +kernel
theorem dX11_comes_148 : decode cX11_comes 148 = .ok (.aload_n 0, 1) := by decide +kernel
theorem dX11_comes_149 : decode cX11_comes 149 = .ok (.iload_n 2, 1) := by decide +kernel
theorem dX11_comes_150 : decode cX11_comes 150 = .ok (.iload_n 3, 1) := by decide +kernel
theorem dX11_comes_151 : decode cX11_comes 151 = .ok (.invokevirtual 180, 3) := by decide +kernel
theorem dX11_comes_154 : decode cX11_comes 154 = .ok (.ireturn, 1) := by decide +kernel
theorem dX11_comes_155 : decode cX11_comes 155 = .ok (.iload 4, 2) := by decide +kernel
theorem dX11_comes_157 : decode cX11_comes 157 = .ok (.ifCond .eq 26, 3) := by decide +kernel
theorem dX11_comes_160 : decode cX11_comes 160 = .ok (.aload_n 0, 1) := by decide +kernel
theorem dX11_comes_161 : decode cX11_comes 161 = .ok (.iload_n 2, 1) := by decide +kernel
theorem dX11_comes_162 : decode cX11_comes 162 = .ok (.iload_n 3, 1) := by decide +kernel
theorem dX11_comes_163 : decode cX11_comes 163 = .ok (.aload_n 0, 1) := by decide +kernel
theorem dX11_comes_164 : decode cX11_comes 164 = .ok (.getfield 59, 3) := by decide +kernel
theorem dX11_comes_167 : decode cX11_comes 167 = .ok (.iconst 3, 1) := by decide +kernel
theorem dX11_comes_168 : decode cX11_comes 168 = .ok (.iload_n 1, 1) := by decide +kernel
theorem dX11_comes_169 : decode cX11_comes 169 = .ok (.imul, 1) := by decide +kernel
theorem dX11_comes_170 : decode cX11_comes 170 = .ok (.iconst 2, 1) := by decide +kernel
theorem dX11_comes_171 : decode cX11_comes 171 = .ok (.iadd, 1) := by decide +kernel
theorem dX11_comes_172 : decode cX11_comes 172 = .ok (.iaload, 1) := by decide +kernel
theorem dX11_comes_173 : decode cX11_comes 173 = .ok (.invokevirtual 184, 3) := by decide +kernel
theorem dX11_comes_176 : decode cX11_comes 176 = .ok (.ifCond .eq 7, 3) := by decide +kernel
theorem dX11_comes_179 : decode cX11_comes 179 = .ok (.iconst 1, 1) := by decide +kernel
theorem dX11_comes_180 : decode cX11_comes 180 = .ok (.goto 4, 3) := by decide +kernel
theorem dX11_comes_183 : decode cX11_comes 183 = .ok (.iconst 0, 1) := by decide +kernel
theorem dX11_comes_184 : decode cX11_comes 184 = .ok (.istore 4, 2) := by decide +kernel
theorem dX11_comes_186 : decode cX11_comes 186 = .ok (.goto 188, 3) := by decide +kernel
theorem dX11_comes_189 : decode cX11_comes 189 = .ok (.iload 4, 2) := by decide +kernel
theorem dX11_comes_191 : decode cX11_comes 191 = .ok (.ifCond .eq 25, 3) := by decide +kernel
theorem dX11_comes_194 : decode cX11_comes 194 = .ok (.aload_n 0, 1) := by decide +kernel
theorem dX11_comes_195 : decode cX11_comes 195 = .ok (.iconst 0, 1) := by decide +kernel
theorem dX11_comes_196 : decode cX11_comes 196 = .ok (.iload_n 2, 1) := by decide +kernel
theorem dX11_comes_197 : decode cX11_comes 197 = .ok (.invokevirtual 188, 3) := by decide +kernel
theorem dX11_comes_200 : decode cX11_comes 200 = .ok (.ifCond .eq 16, 3) := by decide +kernel
theorem dX11_comes_203 : decode cX11_comes 203 = .ok (.aload_n 0, 1) := by decide +kernel
theorem dX11_comes_204 : decode cX11_comes 204 = .ok (.iconst 1, 1) := by decide +kernel
theorem dX11_comes_205 : decode cX11_comes 205 = .ok (.iload_n 3, 1) := by decide +kernel
theorem dX11_comes_206 : decode cX11_comes 206 = .ok (.invokevirtual 188, 3) := by decide +kernel
theorem dX11_comes_209 : decode cX11_comes 209 = .ok (.ifCond .eq 7, 3) := by decide +kernel
theorem dX11_comes_212 : decode cX11_comes 212 = .ok (.iconst 1, 1) := by decide +kernel
theorem dX11_comes_213 : decode cX11_comes 213 = .ok (.goto 4, 3) := by decide +kernel
theorem dX11_comes_216 : decode cX11_comes 216 = .ok (.iconst 0, 1) := by decide +kernel
theorem dX11_comes_217 : decode cX11_comes 217 = .ok (.istore 4, 2) := by decide +kernel
theorem dX11_comes_219 : decode cX11_comes 219 = .ok (.goto 155, 3) := by decide +kernel
theorem dX11_comes_222 : decode cX11_comes 222 = .ok (.iload 4, 2) := by decide +kernel
theorem dX11_comes_224 : decode cX11_comes 224 = .ok (.ifCond .eq 25, 3) := by decide +kernel
theorem dX11_comes_227 : decode cX11_comes 227 = .ok (.aload_n 0, 1) := by decide +kernel
theorem dX11_comes_228 : decode cX11_comes 228 = .ok (.iconst 2, 1) := by decide +kernel
theorem dX11_comes_229 : decode cX11_comes 229 = .ok (.iload_n 2, 1) := by decide +kernel
theorem dX11_comes_230 : decode cX11_comes 230 = .ok (.invokevirtual 188, 3) := by decide +kernel
theorem dX11_comes_233 : decode cX11_comes 233 = .ok (.ifCond .eq 16, 3) := by decide +kernel
theorem dX11_comes_236 : decode cX11_comes 236 = .ok (.aload_n 0, 1) := by decide +kernel
theorem dX11_comes_237 : decode cX11_comes 237 = .ok (.iconst 3, 1) := by decide +kernel
theorem dX11_comes_238 : decode cX11_comes 238 = .ok (.iload_n 3, 1) := by decide +kernel
theorem dX11_comes_239 : decode cX11_comes 239 = .ok (.invokevirtual 188, 3) := by decide +kernel
theorem dX11_comes_242 : decode cX11_comes 242 = .ok (.ifCond .eq 7, 3) := by decide +kernel
theorem dX11_comes_245 : decode cX11_comes 245 = .ok (.iconst 1, 1) := by decide +kernel
theorem dX11_comes_246 : decode cX11_comes 246 = .ok (.goto 4, 3) := by decide +kernel
theorem dX11_comes_249 : decode cX11_comes 249 = .ok (.iconst 0, 1) := by decide +kernel
theorem dX11_comes_250 : decode cX11_comes 250 = .ok (.istore 4, 2) := by decide +kernel
theorem dX11_comes_252 : decode cX11_comes 252 = .ok (.goto 122, 3) := by decide +kernel
theorem dX11_comes_255 : decode cX11_comes 255 = .ok (.iload 4, 2) := by decide +kernel
theorem dX11_comes_257 : decode cX11_comes 257 = .ok (.ifCond .eq 16, 3) := by decide +kernel
theorem dX11_comes_260 : decode cX11_comes 260 = .ok (.aload_n 0, 1) := by decide +kernel
theorem dX11_comes_261 : decode cX11_comes 261 = .ok (.iconst 4, 1) := by decide +kernel
theorem dX11_comes_262 : decode cX11_comes 262 = .ok (.iload_n 2, 1) := by decide +kernel
theorem dX11_comes_263 : decode cX11_comes 263 = .ok (.invokevirtual 188, 3) := by decide +kernel
theorem dX11_comes_266 : decode cX11_comes 266 = .ok (.ifCond .eq 7, 3) := by decide +kernel
theorem dX11_comes_269 : decode cX11_comes 269 = .ok (.iconst 1, 1) := by decide +kernel
theorem dX11_comes_270 : decode cX11_comes 270 = .ok (.goto 4, 3) := by decide +kernel
theorem dX11_comes_273 : decode cX11_comes 273 = .ok (.iconst 0, 1) := by decide +kernel
theorem dX11_comes_274 : decode cX11_comes 274 = .ok (.istore 4, 2) := by decide +kernel
theorem dX11_comes_276 : decode cX11_comes 276 = .ok (.goto 98, 3) := by decide +kernel
theorem dX11_comes_279 : decode cX11_comes 279 = .ok (.iload 4, 2) := by decide +kernel
theorem dX11_comes_281 : decode cX11_comes 281 = .ok (.ifCond .eq 16, 3) := by decide +kernel
theorem dX11_comes_284 : decode cX11_comes 284 = .ok (.aload_n 0, 1) := by decide +kernel
theorem dX11_comes_285 : decode cX11_comes 285 = .ok (.iconst 5, 1) := by decide +kernel
theorem dX11_comes_286 : decode cX11_comes 286 = .ok (.iload_n 2, 1) := by decide +kernel
theorem dX11_comes_287 : decode cX11_comes 287 = .ok (.invokevirtual 188, 3) := by decide +kernel
theorem dX11_comes_290 : decode cX11_comes 290 = .ok (.ifCond .eq 7, 3) := by decide +kernel
theorem dX11_comes_293 : decode cX11_comes 293 = .ok (.iconst 1, 1) := by decide +kernel
theorem dX11_comes_294 : decode cX11_comes 294 = .ok (.goto 4, 3) := by decide +kernel
theorem dX11_comes_297 : decode cX11_comes 297 = .ok (.iconst 0, 1) := by decide +kernel
theorem dX11_comes_298 : decode cX11_comes 298 = .ok (.istore 4, 2) := by decide +kernel
theorem dX11_comes_300 : decode cX11_comes 300 = .ok (.goto 74, 3) := by decide +kernel
theorem dX11_comes_303 : decode cX11_comes 303 = .ok (.iload 4, 2) := by decide +kernel
theorem dX11_comes_305 : decode cX11_comes 305 = .ok (.ifCond .eq 17, 3) := by decide +kernel
theorem dX11_comes_308 : decode cX11_comes 308 = .ok (.aload_n 0, 1) := by decide +kernel
theorem dX11_comes_309 : decode cX11_comes 309 = .ok (.bipush 6, 2) := by decide +kernel
theorem dX11_comes_311 : decode cX11_comes 311 = .ok (.iload_n 2, 1) := by decide +kernel
theorem dX11_comes_312 : decode cX11_comes 312 = .ok (.invokevirtual 188, 3) := by decide +kernel
theorem dX11_comes_315 : decode cX11_comes 315 = .ok (.ifCond .eq 7, 3) := by decide +kernel
theorem dX11_comes_318 : decode cX11_comes 318 = .ok (.iconst 1, 1) := by decide +kernel
theorem dX11_comes_319 : decode cX11_comes 319 = .ok (.goto 4, 3) := by decide +kernel
theorem dX11_comes_322 : decode cX11_comes 322 = .ok (.iconst 0, 1) := by decide +kernel
theorem dX11_comes_323 : decode cX11_comes 323 = .ok (.istore 4, 2) := by decide +kernel
theorem dX11_comes_325 : decode cX11_comes 325 = .ok (.goto 49, 3) := by decide +kernel
theorem dX11_comes_328 : decode cX11_comes 328 = .ok (.iload 4, 2) := by decide +kernel
theorem dX11_comes_330 : decode cX11_comes 330 = .ok (.ifCond .eq 14, 3) := by decide +kernel
theorem dX11_comes_333 : decode cX11_comes 333 = .ok (.aload_n 0, 1) := by decide +kernel
theorem dX11_comes_334 : decode cX11_comes 334 = .ok (.getfield 89, 3) := by decide +kernel
theorem dX11_comes_337 : decode cX11_comes 337 = .ok (.ifCond .ne 7, 3) := by decide +kernel
theorem dX11_comes_340 : decode cX11_comes 340 = .ok (.iconst 1, 1) := by decide +kernel
theorem dX11_comes_341 : decode cX11_comes 341 = .ok (.goto 4, 3) := by decide +kernel
theorem dX11_comes_344 : decode cX11_comes 344 = .ok (.iconst 0, 1) := by decide +kernel
theorem dX11_comes_345 : decode cX11_comes 345 = .ok (.istore 4, 2) := by decide +kernel
theorem dX11_comes_347 : decode cX11_comes 347 = .ok (.aload_n 0, 1) := by decide +kernel
theorem dX11_comes_348 : decode cX11_comes 348 = .ok (.iconst 1, 1) := by decide +kernel
theorem dX11_comes_349 : decode cX11_comes 349 = .ok (.putfield 89, 3) := by decide +kernel
theorem dX11_comes_352 : decode cX11_comes 352 = .ok (.goto 22, 3) := by decide +kernel
theorem dX11_comes_355 : decode cX11_comes 355 = .ok (.iload 4, 2) := by decide +kernel
theorem dX11_comes_357 : decode cX11_comes 357 = .ok (.ifCond .eq 15, 3) := by decide +kernel
theorem dX11_comes_360 : decode cX11_comes 360 = .ok (.aload_n 0, 1) := by decide +kernel
theorem dX11_comes_361 : decode cX11_comes 361 = .ok (.iload_n 2, 1) := by decide +kernel
theorem dX11_comes_362 : decode cX11_comes 362 = .ok (.invokevirtual 191, 3) := by decide +kernel
theorem dX11_comes_365 : decode cX11_comes 365 = .ok (.ifCond .eq 7, 3) := by decide +kernel
theorem dX11_comes_368 : decode cX11_comes 368 = .ok (.iconst 1, 1) := by decide +kernel
theorem dX11_comes_369 : decode cX11_comes 369 = .ok (.goto 4, 3) := by decide +kernel
theorem dX11_comes_372 : decode cX11_comes 372 = .ok (.iconst 0, 1) := by decide +kernel
theorem dX11_comes_373 : decode cX11_comes 373 = .ok (.ireturn, 1) := by decide +kernel
theorem dX11_comes_374 : decode cX11_comes 374 = .ok (.iload 4, 2) := by decide +kernel
theorem dX11_comes_376 : decode cX11_comes 376 = .ok (.ifCond .eq 7, 3) := by decide +kernel
theorem dX11_comes_379 : decode cX11_comes 379 = .ok (.aload_n 0, 1) := by decide +kernel
theorem dX11_comes_380 : decode cX11_comes 380 = .ok (.invokevirtual 173, 3) := by decide +kernel
theorem dX11_comes_383 : decode cX11_comes 383 = .ok (.iload 4, 2) := by decide +kernel
theorem dX11_comes_385 : decode cX11_comes 385 = .ok (.ireturn, 1) := by decide +kernel
/-! comes -/
def X11_comes_p383 (st : MS) (v4 : Int32) : Option (Int32 × MS) :=
    gz v4 <|
    some (v4, st)
def X11_comes_p374 (st : MS) (v4 : Int32) : Option (Int32 × MS) :=
    if v4 = 0 then
      (X11_comes_p383 st v4)
    else
    bnd (X11_settle st) fun _ st_3 =>
    X11_comes_p383 st_3 v4
def X11_comes_p184 (st : MS) (t0 : Int32) : Option (Int32 × MS) :=
    X11_comes_p374 st t0
def X11_comes_p183 (st : MS) : Option (Int32 × MS) :=
    X11_comes_p184 st (0 : Int32)
def X11_comes_p217 (st : MS) (t0 : Int32) : Option (Int32 × MS) :=
    X11_comes_p374 st t0
def X11_comes_p216 (st : MS) : Option (Int32 × MS) :=
    X11_comes_p217 st (0 : Int32)
def X11_comes_p250 (st : MS) (t0 : Int32) : Option (Int32 × MS) :=
    X11_comes_p374 st t0
def X11_comes_p249 (st : MS) : Option (Int32 × MS) :=
    X11_comes_p250 st (0 : Int32)
def X11_comes_p274 (st : MS) (t0 : Int32) : Option (Int32 × MS) :=
    X11_comes_p374 st t0
def X11_comes_p273 (st : MS) : Option (Int32 × MS) :=
    X11_comes_p274 st (0 : Int32)
def X11_comes_p298 (st : MS) (t0 : Int32) : Option (Int32 × MS) :=
    X11_comes_p374 st t0
def X11_comes_p297 (st : MS) : Option (Int32 × MS) :=
    X11_comes_p298 st (0 : Int32)
def X11_comes_p323 (st : MS) (t0 : Int32) : Option (Int32 × MS) :=
    X11_comes_p374 st t0
def X11_comes_p322 (st : MS) : Option (Int32 × MS) :=
    X11_comes_p323 st (0 : Int32)
def X11_comes_p345 (st : MS) (t0 : Int32) : Option (Int32 × MS) :=
    gz (1 : Int32) <|
    nm (sF st 5 (1 : Int32)) fun st_5 =>
    X11_comes_p374 st_5 t0
def X11_comes_p344 (st : MS) : Option (Int32 × MS) :=
    X11_comes_p345 st (0 : Int32)
def X11_comes_p373 (st : MS) (t0 : Int32) : Option (Int32 × MS) :=
    gz t0 <|
    some (t0, st)
def X11_comes_p32 (st : MS) (v1 : Int32) (v2 : Int32) (v3 : Int32) (t0 : Int32) : Option (Int32 × MS) :=
    inr v1 51 <|
    nm ((gA st 24 v1.toNatClampNeg)) fun x_9 =>
    if x_9 = (97 : Int32) then
      (if t0 = 0 then
        (X11_comes_p322 st)
      else
      bnd (X11_comesSet st (6 : Int32) v2) fun y_13 st_12 =>
      if y_13 = 0 then
        (X11_comes_p322 st_12)
      else
      X11_comes_p323 st_12 (1 : Int32))
    else
    if x_9 = (98 : Int32) then
      (if t0 = 0 then
        (X11_comes_p373 st (0 : Int32))
      else
      bnd (X11_minutesCome st v2) fun y_19 st_18 =>
      if y_19 = 0 then
        (X11_comes_p373 st_18 (0 : Int32))
      else
      X11_comes_p373 st_18 (1 : Int32))
    else
    if x_9 = (99 : Int32) then
      (if t0 = 0 then
        (X11_comes_p183 st)
      else
      inr (((3 : Int32) * v1) + (2 : Int32)) 153 <|
      bnd (X11_cellComes st v2 v3 (gA st 25 (((3 : Int32) * v1) + (2 : Int32)).toNatClampNeg)) fun y_26 st_25 =>
      if y_26 = 0 then
        (X11_comes_p183 st_25)
      else
      X11_comes_p184 st_25 (1 : Int32))
    else
    if x_9 = (100 : Int32) then
      (if t0 = 0 then
        (X11_comes_p373 st (0 : Int32))
      else
      bnd (X11_minutesCome st v2) fun y_32 st_31 =>
      if y_32 = 0 then
        (X11_comes_p373 st_31 (0 : Int32))
      else
      X11_comes_p373 st_31 (1 : Int32))
    else
    if x_9 = (101 : Int32) then
      (if t0 = 0 then
        (X11_comes_p373 st (0 : Int32))
      else
      bnd (X11_minutesCome st v2) fun y_38 st_37 =>
      if y_38 = 0 then
        (X11_comes_p373 st_37 (0 : Int32))
      else
      X11_comes_p373 st_37 (1 : Int32))
    else
    if x_9 = (102 : Int32) then
      (if t0 = 0 then
        (X11_comes_p344 st)
      else
      if (gF st 5) = 0 then
        (X11_comes_p345 st (1 : Int32))
      else
      X11_comes_p344 st)
    else
    if x_9 = (103 : Int32) then
      (if t0 = 0 then
        (X11_comes_p273 st)
      else
      bnd (X11_comesSet st (4 : Int32) v2) fun y_47 st_46 =>
      if y_47 = 0 then
        (X11_comes_p273 st_46)
      else
      X11_comes_p274 st_46 (1 : Int32))
    else
    if x_9 = (104 : Int32) then
      (if t0 = 0 then
        (X11_comes_p297 st)
      else
      bnd (X11_comesSet st (5 : Int32) v2) fun y_53 st_52 =>
      if y_53 = 0 then
        (X11_comes_p297 st_52)
      else
      X11_comes_p298 st_52 (1 : Int32))
    else
    if x_9 = (105 : Int32) then
      (if t0 = 0 then
        (X11_comes_p373 st (0 : Int32))
      else
      bnd (X11_minutesCome st v2) fun y_59 st_58 =>
      if y_59 = 0 then
        (X11_comes_p373 st_58 (0 : Int32))
      else
      X11_comes_p373 st_58 (1 : Int32))
    else
    if x_9 = (106 : Int32) then
      (if t0 = 0 then
        (X11_comes_p373 st (0 : Int32))
      else
      bnd (X11_minutesCome st v2) fun y_65 st_64 =>
      if y_65 = 0 then
        (X11_comes_p373 st_64 (0 : Int32))
      else
      X11_comes_p373 st_64 (1 : Int32))
    else
    if x_9 = (107 : Int32) then
      (if t0 = 0 then
        (X11_comes_p373 st (0 : Int32))
      else
      bnd (X11_minutesCome st v2) fun y_71 st_70 =>
      if y_71 = 0 then
        (X11_comes_p373 st_70 (0 : Int32))
      else
      X11_comes_p373 st_70 (1 : Int32))
    else
    if x_9 = (108 : Int32) then
      (if t0 = 0 then
        (X11_comes_p216 st)
      else
      bnd (X11_comesSet st (0 : Int32) v2) fun y_77 st_76 =>
      if y_77 = 0 then
        (X11_comes_p216 st_76)
      else
      bnd (X11_comesSet st_76 (1 : Int32) v3) fun y_81 st_80 =>
      if y_81 = 0 then
        (X11_comes_p216 st_80)
      else
      X11_comes_p217 st_80 (1 : Int32))
    else
    if x_9 = (109 : Int32) then
      (if t0 = 0 then
        (X11_comes_p373 st (0 : Int32))
      else
      bnd (X11_minutesCome st v2) fun y_87 st_86 =>
      if y_87 = 0 then
        (X11_comes_p373 st_86 (0 : Int32))
      else
      X11_comes_p373 st_86 (1 : Int32))
    else
    if x_9 = (110 : Int32) then
      (if t0 = 0 then
        (X11_comes_p373 st (0 : Int32))
      else
      bnd (X11_minutesCome st v2) fun y_93 st_92 =>
      if y_93 = 0 then
        (X11_comes_p373 st_92 (0 : Int32))
      else
      X11_comes_p373 st_92 (1 : Int32))
    else
    if x_9 = (111 : Int32) then
      (bnd (X11_houseComes st v2 v3) fun y_98 st_97 =>
      gz y_98 <|
      some (y_98, st_97))
    else
    if x_9 = (112 : Int32) then
      (if t0 = 0 then
        (X11_comes_p373 st (0 : Int32))
      else
      bnd (X11_minutesCome st v2) fun y_104 st_103 =>
      if y_104 = 0 then
        (X11_comes_p373 st_103 (0 : Int32))
      else
      X11_comes_p373 st_103 (1 : Int32))
    else
    if x_9 = (113 : Int32) then
      (if t0 = 0 then
        (X11_comes_p373 st (0 : Int32))
      else
      bnd (X11_minutesCome st v2) fun y_110 st_109 =>
      if y_110 = 0 then
        (X11_comes_p373 st_109 (0 : Int32))
      else
      X11_comes_p373 st_109 (1 : Int32))
    else
    if x_9 = (114 : Int32) then
      (if t0 = 0 then
        (X11_comes_p373 st (0 : Int32))
      else
      bnd (X11_minutesCome st v2) fun y_116 st_115 =>
      if y_116 = 0 then
        (X11_comes_p373 st_115 (0 : Int32))
      else
      X11_comes_p373 st_115 (1 : Int32))
    else
    if x_9 = (115 : Int32) then
      (if t0 = 0 then
        (X11_comes_p373 st (0 : Int32))
      else
      bnd (X11_minutesCome st v2) fun y_122 st_121 =>
      if y_122 = 0 then
        (X11_comes_p373 st_121 (0 : Int32))
      else
      X11_comes_p373 st_121 (1 : Int32))
    else
    if x_9 = (116 : Int32) then
      (if t0 = 0 then
        (X11_comes_p373 st (0 : Int32))
      else
      bnd (X11_minutesCome st v2) fun y_128 st_127 =>
      if y_128 = 0 then
        (X11_comes_p373 st_127 (0 : Int32))
      else
      X11_comes_p373 st_127 (1 : Int32))
    else
    if x_9 = (117 : Int32) then
      (if t0 = 0 then
        (X11_comes_p373 st (0 : Int32))
      else
      bnd (X11_minutesCome st v2) fun y_134 st_133 =>
      if y_134 = 0 then
        (X11_comes_p373 st_133 (0 : Int32))
      else
      X11_comes_p373 st_133 (1 : Int32))
    else
    if x_9 = (118 : Int32) then
      (if t0 = 0 then
        (X11_comes_p373 st (0 : Int32))
      else
      bnd (X11_minutesCome st v2) fun y_140 st_139 =>
      if y_140 = 0 then
        (X11_comes_p373 st_139 (0 : Int32))
      else
      X11_comes_p373 st_139 (1 : Int32))
    else
    if x_9 = (119 : Int32) then
      (if t0 = 0 then
        (X11_comes_p249 st)
      else
      bnd (X11_comesSet st (2 : Int32) v2) fun y_146 st_145 =>
      if y_146 = 0 then
        (X11_comes_p249 st_145)
      else
      bnd (X11_comesSet st_145 (3 : Int32) v3) fun y_150 st_149 =>
      if y_150 = 0 then
        (X11_comes_p249 st_149)
      else
      X11_comes_p250 st_149 (1 : Int32))
    else
    if t0 = 0 then
      (X11_comes_p373 st (0 : Int32))
    else
    bnd (X11_minutesCome st v2) fun y_155 st_154 =>
    if y_155 = 0 then
      (X11_comes_p373 st_154 (0 : Int32))
    else
    X11_comes_p373 st_154 (1 : Int32)
def X11_comes (st : MS) (v1 : Int32) : Option (Int32 × MS) :=
    inr ((3 : Int32) * v1) 153 <|
    nm ((gA st 25 ((3 : Int32) * v1).toNatClampNeg)) fun x_159 =>
    inr (((3 : Int32) * v1) + (1 : Int32)) 153 <|
    nm ((gA st 25 (((3 : Int32) * v1) + (1 : Int32)).toNatClampNeg)) fun x_161 =>
    if (gF st 7) = 0 then
      (X11_comes_p32 st v1 x_159 x_161 (1 : Int32))
    else
    X11_comes_p32 st v1 x_159 x_161 (0 : Int32)
abbrev rmX11_comes : Room := { frames := 10, cells := 0, slots := 0, locals := 215 }
theorem hdX11_comes : yX11_comes.cls = RX11 ∧ yX11_comes.cls ≠ "java/lang/invoke/MethodHandle" ∧ yX11_comes.cls ≠ "java/lang/invoke/VarHandle" ∧ (parseMethodDescriptor yX11_comes.desc).map (fun d => d.parameters.length) = some 1 := by decide +kernel
set_option maxRecDepth 100000 in
set_option maxHeartbeats 4000000 in
theorem okX11_comes (l : Launch) (D : va_G) (a : Nat → Nat) (T : mT3) {st : MS} {v1 : Int32} {r : Int32} {st' : MS} (heq : X11_comes st v1 = some (r, st')) : gCi l D (mT T) yX11_comes wsX11_comes rmX11_comes [.ref (a 0), .int v1] (mW a T st) r (mW a T st') := by
  refine g_body_i (by decide) rfl (Nat.le_of_ble_eq_true rfl) (fun p e s m args below meth c A Q hx hb hml hown hts hK hA hret ls hP hD hS hl => ?_)
  have hl : lv_has ls 5 [(0, .ref (a 0)), (1, .int v1)] := hl
  have hin : ∀ w ∈ wsX110, w ∈ wsX11_comes := fun w h => List.mem_cons_of_mem _ (List.mem_append_right _ h)
  have f56 : (Cond.fieldLink RX11 56 RX11 (TX11 24).2.1 (TX11 24).2.2.1).before args s = true := hts (.fieldLink RX11 56 "LaidDownTheLaneModel" "letterOf" "[I") (by decide +kernel)
  have f59 : (Cond.fieldLink RX11 59 RX11 (TX11 25).2.1 (TX11 25).2.2.1).before args s = true := hts (.fieldLink RX11 59 "LaidDownTheLaneModel" "told" "[I") (by decide +kernel)
  have f89 : (Cond.fieldLink RX11 89 RX11 (TX11 5).2.1 (TX11 5).2.2.1).before args s = true := hts (.fieldLink RX11 89 "LaidDownTheLaneModel" "isLit" "Z") (by decide +kernel)
  have f122 : (Cond.fieldLink RX11 122 RX11 (TX11 7).2.1 (TX11 7).2.2.1).before args s = true := hts (.fieldLink RX11 122 "LaidDownTheLaneModel" "isDown" "Z") (by decide +kernel)
  have b383 : ∀ (st : MS) (v4 : Int32) (H : Heap) (locs : List Loc) (ls : Array Slot), va_P D vwCl (mW a T st) H → va_D A (mW a T st) → va_S A s.heap H locs → lv_has ls 5 [(4, .int v4)] → X11_comes_p383  st v4 = some (r, st') → W p l e rmX11_comes s m args below meth c H locs 0 0 Q (F0 m 383 ls []) := by
    intro st v4 H locs ls hP hD hS hl heq
    unfold X11_comes_p383 at heq
    refine lv_iload hx hb dX11_comes_383 (lv_at hl 0 rfl) ?_
    obtain ⟨n_1, _, heq⟩ := gz_h heq
    obtain ⟨heq, heq2⟩ := ret_h heq
    subst heq
    subst heq2
    exact hret 385 H locs ls hP hD hS n_1 dX11_comes_385
  have b374 : ∀ (st : MS) (v4 : Int32) (H : Heap) (locs : List Loc) (ls : Array Slot), va_P D vwCl (mW a T st) H → va_D A (mW a T st) → va_S A s.heap H locs → lv_has ls 5 [(0, .ref (a 0)), (4, .int v4)] → X11_comes_p374  st v4 = some (r, st') → W p l e rmX11_comes s m args below meth c H locs 0 0 Q (F0 m 374 ls []) := by
    intro st v4 H locs ls hP hD hS hl heq
    unfold X11_comes_p374 at heq
    refine lv_iload hx hb dX11_comes_374 (lv_at hl 1 rfl) ?_
    refine lv_if_eq (tgt := 383) hx hb dX11_comes_376 (by decide) (fun c_2 => ?_) (fun c_2 => ?_)
    · have heq := it_t c_2 heq
      exact b383 st v4 H locs ls hP hD hS (lv_sub hl [1] rfl) heq
    have heq := it_f c_2 heq
    refine lv_aload_n hx hb dX11_comes_379 rfl (lv_at hl 0 rfl) ?_
    obtain ⟨⟨⟩, st_3, h_4, heq⟩ := bnd_h heq
    refine g_vv (own := RX11) (As := []) (rest := []) hx hb hml hown hts (okX11_settle l D a T h_4) (cwV 0 hts gX11_comes_X11_settle rfl rfl rfl hdX11_settle ⟨Nat.le_of_ble_eq_true rfl, Nat.le_of_ble_eq_true rfl⟩) hK hA hP hD hS (ci := 11) (q0 := 0) rfl rfl rfl hl.1 rfl (Nat.le_of_ble_eq_true rfl) dX11_comes_380 ⟨Nat.le_of_ble_eq_true rfl, Nat.le_of_ble_eq_true rfl⟩ (fun H locs hP hD hS => ?_)
    exact b383 st_3 v4 H locs ls hP hD hS (lv_sub hl [1] rfl) heq
  have b184 : ∀ (st : MS) (t0 : Int32) (H : Heap) (locs : List Loc) (ls : Array Slot), va_P D vwCl (mW a T st) H → va_D A (mW a T st) → va_S A s.heap H locs → lv_has ls 5 [(0, .ref (a 0))] → X11_comes_p184  st t0 = some (r, st') → W p l e rmX11_comes s m args below meth c H locs 0 0 Q (F0 m 184 ls [.int t0]) := by
    intro st t0 H locs ls hP hD hS hl heq
    unfold X11_comes_p184 at heq
    refine lv_istore (lv' := [(4, .int t0), (0, .ref (a 0))]) hx hb dX11_comes_184 hl (by decide) rfl (fun ls hl => ?_)
    refine lv_goto (tgt := 374) hx hb dX11_comes_186 (by decide) ?_
    exact b374 st t0 H locs ls hP hD hS (lv_sub hl [1, 0] rfl) heq
  have b183 : ∀ (st : MS) (H : Heap) (locs : List Loc) (ls : Array Slot), va_P D vwCl (mW a T st) H → va_D A (mW a T st) → va_S A s.heap H locs → lv_has ls 5 [(0, .ref (a 0))] → X11_comes_p183  st = some (r, st') → W p l e rmX11_comes s m args below meth c H locs 0 0 Q (F0 m 183 ls []) := by
    intro st H locs ls hP hD hS hl heq
    unfold X11_comes_p183 at heq
    refine lv_iconst (v := (0 : Int32)) hx hb dX11_comes_183 (by decide) ?_
    exact b184 st (0 : Int32) H locs ls hP hD hS (lv_sub hl [0] rfl) heq
  have b217 : ∀ (st : MS) (t0 : Int32) (H : Heap) (locs : List Loc) (ls : Array Slot), va_P D vwCl (mW a T st) H → va_D A (mW a T st) → va_S A s.heap H locs → lv_has ls 5 [(0, .ref (a 0))] → X11_comes_p217  st t0 = some (r, st') → W p l e rmX11_comes s m args below meth c H locs 0 0 Q (F0 m 217 ls [.int t0]) := by
    intro st t0 H locs ls hP hD hS hl heq
    unfold X11_comes_p217 at heq
    refine lv_istore (lv' := [(4, .int t0), (0, .ref (a 0))]) hx hb dX11_comes_217 hl (by decide) rfl (fun ls hl => ?_)
    refine lv_goto (tgt := 374) hx hb dX11_comes_219 (by decide) ?_
    exact b374 st t0 H locs ls hP hD hS (lv_sub hl [1, 0] rfl) heq
  have b216 : ∀ (st : MS) (H : Heap) (locs : List Loc) (ls : Array Slot), va_P D vwCl (mW a T st) H → va_D A (mW a T st) → va_S A s.heap H locs → lv_has ls 5 [(0, .ref (a 0))] → X11_comes_p216  st = some (r, st') → W p l e rmX11_comes s m args below meth c H locs 0 0 Q (F0 m 216 ls []) := by
    intro st H locs ls hP hD hS hl heq
    unfold X11_comes_p216 at heq
    refine lv_iconst (v := (0 : Int32)) hx hb dX11_comes_216 (by decide) ?_
    exact b217 st (0 : Int32) H locs ls hP hD hS (lv_sub hl [0] rfl) heq
  have b250 : ∀ (st : MS) (t0 : Int32) (H : Heap) (locs : List Loc) (ls : Array Slot), va_P D vwCl (mW a T st) H → va_D A (mW a T st) → va_S A s.heap H locs → lv_has ls 5 [(0, .ref (a 0))] → X11_comes_p250  st t0 = some (r, st') → W p l e rmX11_comes s m args below meth c H locs 0 0 Q (F0 m 250 ls [.int t0]) := by
    intro st t0 H locs ls hP hD hS hl heq
    unfold X11_comes_p250 at heq
    refine lv_istore (lv' := [(4, .int t0), (0, .ref (a 0))]) hx hb dX11_comes_250 hl (by decide) rfl (fun ls hl => ?_)
    refine lv_goto (tgt := 374) hx hb dX11_comes_252 (by decide) ?_
    exact b374 st t0 H locs ls hP hD hS (lv_sub hl [1, 0] rfl) heq
  have b249 : ∀ (st : MS) (H : Heap) (locs : List Loc) (ls : Array Slot), va_P D vwCl (mW a T st) H → va_D A (mW a T st) → va_S A s.heap H locs → lv_has ls 5 [(0, .ref (a 0))] → X11_comes_p249  st = some (r, st') → W p l e rmX11_comes s m args below meth c H locs 0 0 Q (F0 m 249 ls []) := by
    intro st H locs ls hP hD hS hl heq
    unfold X11_comes_p249 at heq
    refine lv_iconst (v := (0 : Int32)) hx hb dX11_comes_249 (by decide) ?_
    exact b250 st (0 : Int32) H locs ls hP hD hS (lv_sub hl [0] rfl) heq
  have b274 : ∀ (st : MS) (t0 : Int32) (H : Heap) (locs : List Loc) (ls : Array Slot), va_P D vwCl (mW a T st) H → va_D A (mW a T st) → va_S A s.heap H locs → lv_has ls 5 [(0, .ref (a 0))] → X11_comes_p274  st t0 = some (r, st') → W p l e rmX11_comes s m args below meth c H locs 0 0 Q (F0 m 274 ls [.int t0]) := by
    intro st t0 H locs ls hP hD hS hl heq
    unfold X11_comes_p274 at heq
    refine lv_istore (lv' := [(4, .int t0), (0, .ref (a 0))]) hx hb dX11_comes_274 hl (by decide) rfl (fun ls hl => ?_)
    refine lv_goto (tgt := 374) hx hb dX11_comes_276 (by decide) ?_
    exact b374 st t0 H locs ls hP hD hS (lv_sub hl [1, 0] rfl) heq
  have b273 : ∀ (st : MS) (H : Heap) (locs : List Loc) (ls : Array Slot), va_P D vwCl (mW a T st) H → va_D A (mW a T st) → va_S A s.heap H locs → lv_has ls 5 [(0, .ref (a 0))] → X11_comes_p273  st = some (r, st') → W p l e rmX11_comes s m args below meth c H locs 0 0 Q (F0 m 273 ls []) := by
    intro st H locs ls hP hD hS hl heq
    unfold X11_comes_p273 at heq
    refine lv_iconst (v := (0 : Int32)) hx hb dX11_comes_273 (by decide) ?_
    exact b274 st (0 : Int32) H locs ls hP hD hS (lv_sub hl [0] rfl) heq
  have b298 : ∀ (st : MS) (t0 : Int32) (H : Heap) (locs : List Loc) (ls : Array Slot), va_P D vwCl (mW a T st) H → va_D A (mW a T st) → va_S A s.heap H locs → lv_has ls 5 [(0, .ref (a 0))] → X11_comes_p298  st t0 = some (r, st') → W p l e rmX11_comes s m args below meth c H locs 0 0 Q (F0 m 298 ls [.int t0]) := by
    intro st t0 H locs ls hP hD hS hl heq
    unfold X11_comes_p298 at heq
    refine lv_istore (lv' := [(4, .int t0), (0, .ref (a 0))]) hx hb dX11_comes_298 hl (by decide) rfl (fun ls hl => ?_)
    refine lv_goto (tgt := 374) hx hb dX11_comes_300 (by decide) ?_
    exact b374 st t0 H locs ls hP hD hS (lv_sub hl [1, 0] rfl) heq
  have b297 : ∀ (st : MS) (H : Heap) (locs : List Loc) (ls : Array Slot), va_P D vwCl (mW a T st) H → va_D A (mW a T st) → va_S A s.heap H locs → lv_has ls 5 [(0, .ref (a 0))] → X11_comes_p297  st = some (r, st') → W p l e rmX11_comes s m args below meth c H locs 0 0 Q (F0 m 297 ls []) := by
    intro st H locs ls hP hD hS hl heq
    unfold X11_comes_p297 at heq
    refine lv_iconst (v := (0 : Int32)) hx hb dX11_comes_297 (by decide) ?_
    exact b298 st (0 : Int32) H locs ls hP hD hS (lv_sub hl [0] rfl) heq
  have b323 : ∀ (st : MS) (t0 : Int32) (H : Heap) (locs : List Loc) (ls : Array Slot), va_P D vwCl (mW a T st) H → va_D A (mW a T st) → va_S A s.heap H locs → lv_has ls 5 [(0, .ref (a 0))] → X11_comes_p323  st t0 = some (r, st') → W p l e rmX11_comes s m args below meth c H locs 0 0 Q (F0 m 323 ls [.int t0]) := by
    intro st t0 H locs ls hP hD hS hl heq
    unfold X11_comes_p323 at heq
    refine lv_istore (lv' := [(4, .int t0), (0, .ref (a 0))]) hx hb dX11_comes_323 hl (by decide) rfl (fun ls hl => ?_)
    refine lv_goto (tgt := 374) hx hb dX11_comes_325 (by decide) ?_
    exact b374 st t0 H locs ls hP hD hS (lv_sub hl [1, 0] rfl) heq
  have b322 : ∀ (st : MS) (H : Heap) (locs : List Loc) (ls : Array Slot), va_P D vwCl (mW a T st) H → va_D A (mW a T st) → va_S A s.heap H locs → lv_has ls 5 [(0, .ref (a 0))] → X11_comes_p322  st = some (r, st') → W p l e rmX11_comes s m args below meth c H locs 0 0 Q (F0 m 322 ls []) := by
    intro st H locs ls hP hD hS hl heq
    unfold X11_comes_p322 at heq
    refine lv_iconst (v := (0 : Int32)) hx hb dX11_comes_322 (by decide) ?_
    exact b323 st (0 : Int32) H locs ls hP hD hS (lv_sub hl [0] rfl) heq
  have b345 : ∀ (st : MS) (t0 : Int32) (H : Heap) (locs : List Loc) (ls : Array Slot), va_P D vwCl (mW a T st) H → va_D A (mW a T st) → va_S A s.heap H locs → lv_has ls 5 [(0, .ref (a 0))] → X11_comes_p345  st t0 = some (r, st') → W p l e rmX11_comes s m args below meth c H locs 0 0 Q (F0 m 345 ls [.int t0]) := by
    intro st t0 H locs ls hP hD hS hl heq
    unfold X11_comes_p345 at heq
    refine lv_istore (lv' := [(4, .int t0), (0, .ref (a 0))]) hx hb dX11_comes_345 hl (by decide) rfl (fun ls hl => ?_)
    refine lv_aload_n hx hb dX11_comes_347 rfl (lv_at hl 1 rfl) ?_
    refine lv_iconst (v := (1 : Int32)) hx hb dX11_comes_348 (by decide) ?_
    obtain ⟨n_6, n_6f, heq⟩ := gz_h heq
    refine mp (k := 5) hx hb hts hin hown hK hP hD hS (by decide) f89 dX11_comes_349 rfl rfl n_6 n_6f (mset_5 ..) (fun H locs hP hD hS => ?_)
    obtain ⟨st_5, est_5⟩ : ∃ z, z = sF st 5 (1 : Int32) := ⟨_, rfl⟩
    rw [← est_5] at hP hD
    have heq := nm_h est_5 heq
    refine lv_goto (tgt := 374) hx hb dX11_comes_352 (by decide) ?_
    exact b374 st_5 t0 H locs ls hP hD hS (lv_sub hl [1, 0] rfl) heq
  have b344 : ∀ (st : MS) (H : Heap) (locs : List Loc) (ls : Array Slot), va_P D vwCl (mW a T st) H → va_D A (mW a T st) → va_S A s.heap H locs → lv_has ls 5 [(0, .ref (a 0))] → X11_comes_p344  st = some (r, st') → W p l e rmX11_comes s m args below meth c H locs 0 0 Q (F0 m 344 ls []) := by
    intro st H locs ls hP hD hS hl heq
    unfold X11_comes_p344 at heq
    refine lv_iconst (v := (0 : Int32)) hx hb dX11_comes_344 (by decide) ?_
    exact b345 st (0 : Int32) H locs ls hP hD hS (lv_sub hl [0] rfl) heq
  have b373 : ∀ (st : MS) (t0 : Int32) (H : Heap) (locs : List Loc) (ls : Array Slot), va_P D vwCl (mW a T st) H → va_D A (mW a T st) → va_S A s.heap H locs → lv_has ls 5 [] → X11_comes_p373  st t0 = some (r, st') → W p l e rmX11_comes s m args below meth c H locs 0 0 Q (F0 m 373 ls [.int t0]) := by
    intro st t0 H locs ls hP hD hS hl heq
    unfold X11_comes_p373 at heq
    obtain ⟨n_7, _, heq⟩ := gz_h heq
    obtain ⟨heq, heq2⟩ := ret_h heq
    subst heq
    subst heq2
    exact hret 373 H locs ls hP hD hS n_7 dX11_comes_373
  have b32 : ∀ (st : MS) (v1 : Int32) (v2 : Int32) (v3 : Int32) (t0 : Int32) (H : Heap) (locs : List Loc) (ls : Array Slot), va_P D vwCl (mW a T st) H → va_D A (mW a T st) → va_S A s.heap H locs → lv_has ls 5 [(0, .ref (a 0)), (1, .int v1), (2, .int v2), (3, .int v3)] → X11_comes_p32  st v1 v2 v3 t0 = some (r, st') → W p l e rmX11_comes s m args below meth c H locs 0 0 Q (F0 m 32 ls [.int t0]) := by
    intro st v1 v2 v3 t0 H locs ls hP hD hS hl heq
    unfold X11_comes_p32 at heq
    refine lv_istore (lv' := [(4, .int t0), (0, .ref (a 0)), (1, .int v1), (2, .int v2), (3, .int v3)]) hx hb dX11_comes_32 hl (by decide) rfl (fun ls hl => ?_)
    refine lv_aload_n hx hb dX11_comes_34 rfl (lv_at hl 1 rfl) ?_
    refine mg (k := 24) (v := .ref (a 16)) hx hb hts hin hown hK hP (by decide) f56 rfl dX11_comes_35 rfl ?_
    refine lv_iload_n hx hb dX11_comes_38 rfl (lv_at hl 2 rfl) ?_
    obtain ⟨n_8, heq⟩ := inr_h heq
    refine mal (k := 24) (q := 16) (n := 51) hx hb hK hP rfl n_8 dX11_comes_39 ?_
    refine lv_topi (fun x_9 ex_9 => ?_)
    have heq := nm_h ex_9 heq
    by_cases c_10 : x_9 = (97 : Int32)
    · have heq := it_t c_10 heq
      refine lv_tableIn (tgt := 303) hx hb dX11_comes_40 (by rw [c_10]; decide) (by rw [c_10]; decide) (by rw [c_10]; rfl) (by decide) ?_
      refine lv_iload hx hb dX11_comes_303 (lv_at hl 0 rfl) ?_
      refine lv_if_eq (tgt := 322) hx hb dX11_comes_305 (by decide) (fun c_11 => ?_) (fun c_11 => ?_)
      · have heq := it_t c_11 heq
        exact b322 st H locs ls hP hD hS (lv_sub hl [1] rfl) heq
      have heq := it_f c_11 heq
      refine lv_aload_n hx hb dX11_comes_308 rfl (lv_at hl 1 rfl) ?_
      refine lv_bipush (v := (6 : Int32)) hx hb dX11_comes_309 (by decide) ?_
      refine lv_iload_n hx hb dX11_comes_311 rfl (lv_at hl 3 rfl) ?_
      obtain ⟨y_13, st_12, h_14, heq⟩ := bnd_h heq
      refine g_vi (own := RX11) (As := [.int (6 : Int32), .int v2]) (rest := []) hx hb hml hown hts (okX11_comesSet l D a T h_14) (cwV 2 hts gX11_comes_X11_comesSet rfl rfl rfl hdX11_comesSet ⟨Nat.le_of_ble_eq_true rfl, Nat.le_of_ble_eq_true rfl⟩) hK hA hP hD hS (ci := 11) (q0 := 0) rfl rfl rfl hl.1 rfl (Nat.le_of_ble_eq_true rfl) dX11_comes_312 ⟨Nat.le_of_ble_eq_true rfl, Nat.le_of_ble_eq_true rfl⟩ (fun H locs hP hD hS => ?_)
      refine lv_if_eq (tgt := 322) hx hb dX11_comes_315 (by decide) (fun c_15 => ?_) (fun c_15 => ?_)
      · have heq := it_t c_15 heq
        exact b322 st_12 H locs ls hP hD hS (lv_sub hl [1] rfl) heq
      have heq := it_f c_15 heq
      refine lv_iconst (v := (1 : Int32)) hx hb dX11_comes_318 (by decide) ?_
      refine lv_goto (tgt := 323) hx hb dX11_comes_319 (by decide) ?_
      exact b323 st_12 (1 : Int32) H locs ls hP hD hS (lv_sub hl [1] rfl) heq
    have heq := it_f c_10 heq
    by_cases c_16 : x_9 = (98 : Int32)
    · have heq := it_t c_16 heq
      refine lv_tableIn (tgt := 355) hx hb dX11_comes_40 (by rw [c_16]; decide) (by rw [c_16]; decide) (by rw [c_16]; rfl) (by decide) ?_
      refine lv_iload hx hb dX11_comes_355 (lv_at hl 0 rfl) ?_
      refine lv_if_eq (tgt := 372) hx hb dX11_comes_357 (by decide) (fun c_17 => ?_) (fun c_17 => ?_)
      · have heq := it_t c_17 heq
        refine lv_iconst (v := (0 : Int32)) hx hb dX11_comes_372 (by decide) ?_
        exact b373 st (0 : Int32) H locs ls hP hD hS (lv_sub hl [] rfl) heq
      have heq := it_f c_17 heq
      refine lv_aload_n hx hb dX11_comes_360 rfl (lv_at hl 1 rfl) ?_
      refine lv_iload_n hx hb dX11_comes_361 rfl (lv_at hl 3 rfl) ?_
      obtain ⟨y_19, st_18, h_20, heq⟩ := bnd_h heq
      refine g_vi (own := RX11) (As := [.int v2]) (rest := []) hx hb hml hown hts (okX11_minutesCome l D a T h_20) (cwV 1 hts gX11_comes_X11_minutesCome rfl rfl rfl hdX11_minutesCome ⟨Nat.le_of_ble_eq_true rfl, Nat.le_of_ble_eq_true rfl⟩) hK hA hP hD hS (ci := 11) (q0 := 0) rfl rfl rfl hl.1 rfl (Nat.le_of_ble_eq_true rfl) dX11_comes_362 ⟨Nat.le_of_ble_eq_true rfl, Nat.le_of_ble_eq_true rfl⟩ (fun H locs hP hD hS => ?_)
      refine lv_if_eq (tgt := 372) hx hb dX11_comes_365 (by decide) (fun c_21 => ?_) (fun c_21 => ?_)
      · have heq := it_t c_21 heq
        refine lv_iconst (v := (0 : Int32)) hx hb dX11_comes_372 (by decide) ?_
        exact b373 st_18 (0 : Int32) H locs ls hP hD hS (lv_sub hl [] rfl) heq
      have heq := it_f c_21 heq
      refine lv_iconst (v := (1 : Int32)) hx hb dX11_comes_368 (by decide) ?_
      refine lv_goto (tgt := 373) hx hb dX11_comes_369 (by decide) ?_
      exact b373 st_18 (1 : Int32) H locs ls hP hD hS (lv_sub hl [] rfl) heq
    have heq := it_f c_16 heq
    by_cases c_22 : x_9 = (99 : Int32)
    · have heq := it_t c_22 heq
      refine lv_tableIn (tgt := 155) hx hb dX11_comes_40 (by rw [c_22]; decide) (by rw [c_22]; decide) (by rw [c_22]; rfl) (by decide) ?_
      refine lv_iload hx hb dX11_comes_155 (lv_at hl 0 rfl) ?_
      refine lv_if_eq (tgt := 183) hx hb dX11_comes_157 (by decide) (fun c_23 => ?_) (fun c_23 => ?_)
      · have heq := it_t c_23 heq
        exact b183 st H locs ls hP hD hS (lv_sub hl [1] rfl) heq
      have heq := it_f c_23 heq
      refine lv_aload_n hx hb dX11_comes_160 rfl (lv_at hl 1 rfl) ?_
      refine lv_iload_n hx hb dX11_comes_161 rfl (lv_at hl 3 rfl) ?_
      refine lv_iload_n hx hb dX11_comes_162 rfl (lv_at hl 4 rfl) ?_
      refine lv_aload_n hx hb dX11_comes_163 rfl (lv_at hl 1 rfl) ?_
      refine mg (k := 25) (v := .ref (a 17)) hx hb hts hin hown hK hP (by decide) f59 rfl dX11_comes_164 rfl ?_
      refine lv_iconst (v := (3 : Int32)) hx hb dX11_comes_167 (by decide) ?_
      refine lv_iload_n hx hb dX11_comes_168 rfl (lv_at hl 2 rfl) ?_
      refine lv_imul hx hb dX11_comes_169 ?_
      refine lv_iconst (v := (2 : Int32)) hx hb dX11_comes_170 (by decide) ?_
      refine lv_iadd hx hb dX11_comes_171 ?_
      obtain ⟨n_24, heq⟩ := inr_h heq
      refine mal (k := 25) (q := 17) (n := 153) hx hb hK hP rfl n_24 dX11_comes_172 ?_
      obtain ⟨y_26, st_25, h_27, heq⟩ := bnd_h heq
      refine g_vi (own := RX11) (As := [.int v2, .int v3, .int (gA st 25 (((3 : Int32) * v1) + (2 : Int32)).toNatClampNeg)]) (rest := []) hx hb hml hown hts (okX11_cellComes l D a T h_27) (cwV 3 hts gX11_comes_X11_cellComes rfl rfl rfl hdX11_cellComes ⟨Nat.le_of_ble_eq_true rfl, Nat.le_of_ble_eq_true rfl⟩) hK hA hP hD hS (ci := 11) (q0 := 0) rfl rfl rfl hl.1 rfl (Nat.le_of_ble_eq_true rfl) dX11_comes_173 ⟨Nat.le_of_ble_eq_true rfl, Nat.le_of_ble_eq_true rfl⟩ (fun H locs hP hD hS => ?_)
      refine lv_if_eq (tgt := 183) hx hb dX11_comes_176 (by decide) (fun c_28 => ?_) (fun c_28 => ?_)
      · have heq := it_t c_28 heq
        exact b183 st_25 H locs ls hP hD hS (lv_sub hl [1] rfl) heq
      have heq := it_f c_28 heq
      refine lv_iconst (v := (1 : Int32)) hx hb dX11_comes_179 (by decide) ?_
      refine lv_goto (tgt := 184) hx hb dX11_comes_180 (by decide) ?_
      exact b184 st_25 (1 : Int32) H locs ls hP hD hS (lv_sub hl [1] rfl) heq
    have heq := it_f c_22 heq
    by_cases c_29 : x_9 = (100 : Int32)
    · have heq := it_t c_29 heq
      refine lv_tableIn (tgt := 355) hx hb dX11_comes_40 (by rw [c_29]; decide) (by rw [c_29]; decide) (by rw [c_29]; rfl) (by decide) ?_
      refine lv_iload hx hb dX11_comes_355 (lv_at hl 0 rfl) ?_
      refine lv_if_eq (tgt := 372) hx hb dX11_comes_357 (by decide) (fun c_30 => ?_) (fun c_30 => ?_)
      · have heq := it_t c_30 heq
        refine lv_iconst (v := (0 : Int32)) hx hb dX11_comes_372 (by decide) ?_
        exact b373 st (0 : Int32) H locs ls hP hD hS (lv_sub hl [] rfl) heq
      have heq := it_f c_30 heq
      refine lv_aload_n hx hb dX11_comes_360 rfl (lv_at hl 1 rfl) ?_
      refine lv_iload_n hx hb dX11_comes_361 rfl (lv_at hl 3 rfl) ?_
      obtain ⟨y_32, st_31, h_33, heq⟩ := bnd_h heq
      refine g_vi (own := RX11) (As := [.int v2]) (rest := []) hx hb hml hown hts (okX11_minutesCome l D a T h_33) (cwV 1 hts gX11_comes_X11_minutesCome rfl rfl rfl hdX11_minutesCome ⟨Nat.le_of_ble_eq_true rfl, Nat.le_of_ble_eq_true rfl⟩) hK hA hP hD hS (ci := 11) (q0 := 0) rfl rfl rfl hl.1 rfl (Nat.le_of_ble_eq_true rfl) dX11_comes_362 ⟨Nat.le_of_ble_eq_true rfl, Nat.le_of_ble_eq_true rfl⟩ (fun H locs hP hD hS => ?_)
      refine lv_if_eq (tgt := 372) hx hb dX11_comes_365 (by decide) (fun c_34 => ?_) (fun c_34 => ?_)
      · have heq := it_t c_34 heq
        refine lv_iconst (v := (0 : Int32)) hx hb dX11_comes_372 (by decide) ?_
        exact b373 st_31 (0 : Int32) H locs ls hP hD hS (lv_sub hl [] rfl) heq
      have heq := it_f c_34 heq
      refine lv_iconst (v := (1 : Int32)) hx hb dX11_comes_368 (by decide) ?_
      refine lv_goto (tgt := 373) hx hb dX11_comes_369 (by decide) ?_
      exact b373 st_31 (1 : Int32) H locs ls hP hD hS (lv_sub hl [] rfl) heq
    have heq := it_f c_29 heq
    by_cases c_35 : x_9 = (101 : Int32)
    · have heq := it_t c_35 heq
      refine lv_tableIn (tgt := 355) hx hb dX11_comes_40 (by rw [c_35]; decide) (by rw [c_35]; decide) (by rw [c_35]; rfl) (by decide) ?_
      refine lv_iload hx hb dX11_comes_355 (lv_at hl 0 rfl) ?_
      refine lv_if_eq (tgt := 372) hx hb dX11_comes_357 (by decide) (fun c_36 => ?_) (fun c_36 => ?_)
      · have heq := it_t c_36 heq
        refine lv_iconst (v := (0 : Int32)) hx hb dX11_comes_372 (by decide) ?_
        exact b373 st (0 : Int32) H locs ls hP hD hS (lv_sub hl [] rfl) heq
      have heq := it_f c_36 heq
      refine lv_aload_n hx hb dX11_comes_360 rfl (lv_at hl 1 rfl) ?_
      refine lv_iload_n hx hb dX11_comes_361 rfl (lv_at hl 3 rfl) ?_
      obtain ⟨y_38, st_37, h_39, heq⟩ := bnd_h heq
      refine g_vi (own := RX11) (As := [.int v2]) (rest := []) hx hb hml hown hts (okX11_minutesCome l D a T h_39) (cwV 1 hts gX11_comes_X11_minutesCome rfl rfl rfl hdX11_minutesCome ⟨Nat.le_of_ble_eq_true rfl, Nat.le_of_ble_eq_true rfl⟩) hK hA hP hD hS (ci := 11) (q0 := 0) rfl rfl rfl hl.1 rfl (Nat.le_of_ble_eq_true rfl) dX11_comes_362 ⟨Nat.le_of_ble_eq_true rfl, Nat.le_of_ble_eq_true rfl⟩ (fun H locs hP hD hS => ?_)
      refine lv_if_eq (tgt := 372) hx hb dX11_comes_365 (by decide) (fun c_40 => ?_) (fun c_40 => ?_)
      · have heq := it_t c_40 heq
        refine lv_iconst (v := (0 : Int32)) hx hb dX11_comes_372 (by decide) ?_
        exact b373 st_37 (0 : Int32) H locs ls hP hD hS (lv_sub hl [] rfl) heq
      have heq := it_f c_40 heq
      refine lv_iconst (v := (1 : Int32)) hx hb dX11_comes_368 (by decide) ?_
      refine lv_goto (tgt := 373) hx hb dX11_comes_369 (by decide) ?_
      exact b373 st_37 (1 : Int32) H locs ls hP hD hS (lv_sub hl [] rfl) heq
    have heq := it_f c_35 heq
    by_cases c_41 : x_9 = (102 : Int32)
    · have heq := it_t c_41 heq
      refine lv_tableIn (tgt := 328) hx hb dX11_comes_40 (by rw [c_41]; decide) (by rw [c_41]; decide) (by rw [c_41]; rfl) (by decide) ?_
      refine lv_iload hx hb dX11_comes_328 (lv_at hl 0 rfl) ?_
      refine lv_if_eq (tgt := 344) hx hb dX11_comes_330 (by decide) (fun c_42 => ?_) (fun c_42 => ?_)
      · have heq := it_t c_42 heq
        exact b344 st H locs ls hP hD hS (lv_sub hl [1] rfl) heq
      have heq := it_f c_42 heq
      refine lv_aload_n hx hb dX11_comes_333 rfl (lv_at hl 1 rfl) ?_
      refine mg (k := 5) (v := .int (gF st 5)) hx hb hts hin hown hK hP (by decide) f89 rfl dX11_comes_334 rfl ?_
      refine lv_if_ne (tgt := 344) hx hb dX11_comes_337 (by decide) (fun c_43 => ?_) (fun c_43 => ?_)
      · have heq := it_f c_43 heq
        exact b344 st H locs ls hP hD hS (lv_sub hl [1] rfl) heq
      have heq := it_t c_43 heq
      refine lv_iconst (v := (1 : Int32)) hx hb dX11_comes_340 (by decide) ?_
      refine lv_goto (tgt := 345) hx hb dX11_comes_341 (by decide) ?_
      exact b345 st (1 : Int32) H locs ls hP hD hS (lv_sub hl [1] rfl) heq
    have heq := it_f c_41 heq
    by_cases c_44 : x_9 = (103 : Int32)
    · have heq := it_t c_44 heq
      refine lv_tableIn (tgt := 255) hx hb dX11_comes_40 (by rw [c_44]; decide) (by rw [c_44]; decide) (by rw [c_44]; rfl) (by decide) ?_
      refine lv_iload hx hb dX11_comes_255 (lv_at hl 0 rfl) ?_
      refine lv_if_eq (tgt := 273) hx hb dX11_comes_257 (by decide) (fun c_45 => ?_) (fun c_45 => ?_)
      · have heq := it_t c_45 heq
        exact b273 st H locs ls hP hD hS (lv_sub hl [1] rfl) heq
      have heq := it_f c_45 heq
      refine lv_aload_n hx hb dX11_comes_260 rfl (lv_at hl 1 rfl) ?_
      refine lv_iconst (v := (4 : Int32)) hx hb dX11_comes_261 (by decide) ?_
      refine lv_iload_n hx hb dX11_comes_262 rfl (lv_at hl 3 rfl) ?_
      obtain ⟨y_47, st_46, h_48, heq⟩ := bnd_h heq
      refine g_vi (own := RX11) (As := [.int (4 : Int32), .int v2]) (rest := []) hx hb hml hown hts (okX11_comesSet l D a T h_48) (cwV 2 hts gX11_comes_X11_comesSet rfl rfl rfl hdX11_comesSet ⟨Nat.le_of_ble_eq_true rfl, Nat.le_of_ble_eq_true rfl⟩) hK hA hP hD hS (ci := 11) (q0 := 0) rfl rfl rfl hl.1 rfl (Nat.le_of_ble_eq_true rfl) dX11_comes_263 ⟨Nat.le_of_ble_eq_true rfl, Nat.le_of_ble_eq_true rfl⟩ (fun H locs hP hD hS => ?_)
      refine lv_if_eq (tgt := 273) hx hb dX11_comes_266 (by decide) (fun c_49 => ?_) (fun c_49 => ?_)
      · have heq := it_t c_49 heq
        exact b273 st_46 H locs ls hP hD hS (lv_sub hl [1] rfl) heq
      have heq := it_f c_49 heq
      refine lv_iconst (v := (1 : Int32)) hx hb dX11_comes_269 (by decide) ?_
      refine lv_goto (tgt := 274) hx hb dX11_comes_270 (by decide) ?_
      exact b274 st_46 (1 : Int32) H locs ls hP hD hS (lv_sub hl [1] rfl) heq
    have heq := it_f c_44 heq
    by_cases c_50 : x_9 = (104 : Int32)
    · have heq := it_t c_50 heq
      refine lv_tableIn (tgt := 279) hx hb dX11_comes_40 (by rw [c_50]; decide) (by rw [c_50]; decide) (by rw [c_50]; rfl) (by decide) ?_
      refine lv_iload hx hb dX11_comes_279 (lv_at hl 0 rfl) ?_
      refine lv_if_eq (tgt := 297) hx hb dX11_comes_281 (by decide) (fun c_51 => ?_) (fun c_51 => ?_)
      · have heq := it_t c_51 heq
        exact b297 st H locs ls hP hD hS (lv_sub hl [1] rfl) heq
      have heq := it_f c_51 heq
      refine lv_aload_n hx hb dX11_comes_284 rfl (lv_at hl 1 rfl) ?_
      refine lv_iconst (v := (5 : Int32)) hx hb dX11_comes_285 (by decide) ?_
      refine lv_iload_n hx hb dX11_comes_286 rfl (lv_at hl 3 rfl) ?_
      obtain ⟨y_53, st_52, h_54, heq⟩ := bnd_h heq
      refine g_vi (own := RX11) (As := [.int (5 : Int32), .int v2]) (rest := []) hx hb hml hown hts (okX11_comesSet l D a T h_54) (cwV 2 hts gX11_comes_X11_comesSet rfl rfl rfl hdX11_comesSet ⟨Nat.le_of_ble_eq_true rfl, Nat.le_of_ble_eq_true rfl⟩) hK hA hP hD hS (ci := 11) (q0 := 0) rfl rfl rfl hl.1 rfl (Nat.le_of_ble_eq_true rfl) dX11_comes_287 ⟨Nat.le_of_ble_eq_true rfl, Nat.le_of_ble_eq_true rfl⟩ (fun H locs hP hD hS => ?_)
      refine lv_if_eq (tgt := 297) hx hb dX11_comes_290 (by decide) (fun c_55 => ?_) (fun c_55 => ?_)
      · have heq := it_t c_55 heq
        exact b297 st_52 H locs ls hP hD hS (lv_sub hl [1] rfl) heq
      have heq := it_f c_55 heq
      refine lv_iconst (v := (1 : Int32)) hx hb dX11_comes_293 (by decide) ?_
      refine lv_goto (tgt := 298) hx hb dX11_comes_294 (by decide) ?_
      exact b298 st_52 (1 : Int32) H locs ls hP hD hS (lv_sub hl [1] rfl) heq
    have heq := it_f c_50 heq
    by_cases c_56 : x_9 = (105 : Int32)
    · have heq := it_t c_56 heq
      refine lv_tableIn (tgt := 355) hx hb dX11_comes_40 (by rw [c_56]; decide) (by rw [c_56]; decide) (by rw [c_56]; rfl) (by decide) ?_
      refine lv_iload hx hb dX11_comes_355 (lv_at hl 0 rfl) ?_
      refine lv_if_eq (tgt := 372) hx hb dX11_comes_357 (by decide) (fun c_57 => ?_) (fun c_57 => ?_)
      · have heq := it_t c_57 heq
        refine lv_iconst (v := (0 : Int32)) hx hb dX11_comes_372 (by decide) ?_
        exact b373 st (0 : Int32) H locs ls hP hD hS (lv_sub hl [] rfl) heq
      have heq := it_f c_57 heq
      refine lv_aload_n hx hb dX11_comes_360 rfl (lv_at hl 1 rfl) ?_
      refine lv_iload_n hx hb dX11_comes_361 rfl (lv_at hl 3 rfl) ?_
      obtain ⟨y_59, st_58, h_60, heq⟩ := bnd_h heq
      refine g_vi (own := RX11) (As := [.int v2]) (rest := []) hx hb hml hown hts (okX11_minutesCome l D a T h_60) (cwV 1 hts gX11_comes_X11_minutesCome rfl rfl rfl hdX11_minutesCome ⟨Nat.le_of_ble_eq_true rfl, Nat.le_of_ble_eq_true rfl⟩) hK hA hP hD hS (ci := 11) (q0 := 0) rfl rfl rfl hl.1 rfl (Nat.le_of_ble_eq_true rfl) dX11_comes_362 ⟨Nat.le_of_ble_eq_true rfl, Nat.le_of_ble_eq_true rfl⟩ (fun H locs hP hD hS => ?_)
      refine lv_if_eq (tgt := 372) hx hb dX11_comes_365 (by decide) (fun c_61 => ?_) (fun c_61 => ?_)
      · have heq := it_t c_61 heq
        refine lv_iconst (v := (0 : Int32)) hx hb dX11_comes_372 (by decide) ?_
        exact b373 st_58 (0 : Int32) H locs ls hP hD hS (lv_sub hl [] rfl) heq
      have heq := it_f c_61 heq
      refine lv_iconst (v := (1 : Int32)) hx hb dX11_comes_368 (by decide) ?_
      refine lv_goto (tgt := 373) hx hb dX11_comes_369 (by decide) ?_
      exact b373 st_58 (1 : Int32) H locs ls hP hD hS (lv_sub hl [] rfl) heq
    have heq := it_f c_56 heq
    by_cases c_62 : x_9 = (106 : Int32)
    · have heq := it_t c_62 heq
      refine lv_tableIn (tgt := 355) hx hb dX11_comes_40 (by rw [c_62]; decide) (by rw [c_62]; decide) (by rw [c_62]; rfl) (by decide) ?_
      refine lv_iload hx hb dX11_comes_355 (lv_at hl 0 rfl) ?_
      refine lv_if_eq (tgt := 372) hx hb dX11_comes_357 (by decide) (fun c_63 => ?_) (fun c_63 => ?_)
      · have heq := it_t c_63 heq
        refine lv_iconst (v := (0 : Int32)) hx hb dX11_comes_372 (by decide) ?_
        exact b373 st (0 : Int32) H locs ls hP hD hS (lv_sub hl [] rfl) heq
      have heq := it_f c_63 heq
      refine lv_aload_n hx hb dX11_comes_360 rfl (lv_at hl 1 rfl) ?_
      refine lv_iload_n hx hb dX11_comes_361 rfl (lv_at hl 3 rfl) ?_
      obtain ⟨y_65, st_64, h_66, heq⟩ := bnd_h heq
      refine g_vi (own := RX11) (As := [.int v2]) (rest := []) hx hb hml hown hts (okX11_minutesCome l D a T h_66) (cwV 1 hts gX11_comes_X11_minutesCome rfl rfl rfl hdX11_minutesCome ⟨Nat.le_of_ble_eq_true rfl, Nat.le_of_ble_eq_true rfl⟩) hK hA hP hD hS (ci := 11) (q0 := 0) rfl rfl rfl hl.1 rfl (Nat.le_of_ble_eq_true rfl) dX11_comes_362 ⟨Nat.le_of_ble_eq_true rfl, Nat.le_of_ble_eq_true rfl⟩ (fun H locs hP hD hS => ?_)
      refine lv_if_eq (tgt := 372) hx hb dX11_comes_365 (by decide) (fun c_67 => ?_) (fun c_67 => ?_)
      · have heq := it_t c_67 heq
        refine lv_iconst (v := (0 : Int32)) hx hb dX11_comes_372 (by decide) ?_
        exact b373 st_64 (0 : Int32) H locs ls hP hD hS (lv_sub hl [] rfl) heq
      have heq := it_f c_67 heq
      refine lv_iconst (v := (1 : Int32)) hx hb dX11_comes_368 (by decide) ?_
      refine lv_goto (tgt := 373) hx hb dX11_comes_369 (by decide) ?_
      exact b373 st_64 (1 : Int32) H locs ls hP hD hS (lv_sub hl [] rfl) heq
    have heq := it_f c_62 heq
    by_cases c_68 : x_9 = (107 : Int32)
    · have heq := it_t c_68 heq
      refine lv_tableIn (tgt := 355) hx hb dX11_comes_40 (by rw [c_68]; decide) (by rw [c_68]; decide) (by rw [c_68]; rfl) (by decide) ?_
      refine lv_iload hx hb dX11_comes_355 (lv_at hl 0 rfl) ?_
      refine lv_if_eq (tgt := 372) hx hb dX11_comes_357 (by decide) (fun c_69 => ?_) (fun c_69 => ?_)
      · have heq := it_t c_69 heq
        refine lv_iconst (v := (0 : Int32)) hx hb dX11_comes_372 (by decide) ?_
        exact b373 st (0 : Int32) H locs ls hP hD hS (lv_sub hl [] rfl) heq
      have heq := it_f c_69 heq
      refine lv_aload_n hx hb dX11_comes_360 rfl (lv_at hl 1 rfl) ?_
      refine lv_iload_n hx hb dX11_comes_361 rfl (lv_at hl 3 rfl) ?_
      obtain ⟨y_71, st_70, h_72, heq⟩ := bnd_h heq
      refine g_vi (own := RX11) (As := [.int v2]) (rest := []) hx hb hml hown hts (okX11_minutesCome l D a T h_72) (cwV 1 hts gX11_comes_X11_minutesCome rfl rfl rfl hdX11_minutesCome ⟨Nat.le_of_ble_eq_true rfl, Nat.le_of_ble_eq_true rfl⟩) hK hA hP hD hS (ci := 11) (q0 := 0) rfl rfl rfl hl.1 rfl (Nat.le_of_ble_eq_true rfl) dX11_comes_362 ⟨Nat.le_of_ble_eq_true rfl, Nat.le_of_ble_eq_true rfl⟩ (fun H locs hP hD hS => ?_)
      refine lv_if_eq (tgt := 372) hx hb dX11_comes_365 (by decide) (fun c_73 => ?_) (fun c_73 => ?_)
      · have heq := it_t c_73 heq
        refine lv_iconst (v := (0 : Int32)) hx hb dX11_comes_372 (by decide) ?_
        exact b373 st_70 (0 : Int32) H locs ls hP hD hS (lv_sub hl [] rfl) heq
      have heq := it_f c_73 heq
      refine lv_iconst (v := (1 : Int32)) hx hb dX11_comes_368 (by decide) ?_
      refine lv_goto (tgt := 373) hx hb dX11_comes_369 (by decide) ?_
      exact b373 st_70 (1 : Int32) H locs ls hP hD hS (lv_sub hl [] rfl) heq
    have heq := it_f c_68 heq
    by_cases c_74 : x_9 = (108 : Int32)
    · have heq := it_t c_74 heq
      refine lv_tableIn (tgt := 189) hx hb dX11_comes_40 (by rw [c_74]; decide) (by rw [c_74]; decide) (by rw [c_74]; rfl) (by decide) ?_
      refine lv_iload hx hb dX11_comes_189 (lv_at hl 0 rfl) ?_
      refine lv_if_eq (tgt := 216) hx hb dX11_comes_191 (by decide) (fun c_75 => ?_) (fun c_75 => ?_)
      · have heq := it_t c_75 heq
        exact b216 st H locs ls hP hD hS (lv_sub hl [1] rfl) heq
      have heq := it_f c_75 heq
      refine lv_aload_n hx hb dX11_comes_194 rfl (lv_at hl 1 rfl) ?_
      refine lv_iconst (v := (0 : Int32)) hx hb dX11_comes_195 (by decide) ?_
      refine lv_iload_n hx hb dX11_comes_196 rfl (lv_at hl 3 rfl) ?_
      obtain ⟨y_77, st_76, h_78, heq⟩ := bnd_h heq
      refine g_vi (own := RX11) (As := [.int (0 : Int32), .int v2]) (rest := []) hx hb hml hown hts (okX11_comesSet l D a T h_78) (cwV 2 hts gX11_comes_X11_comesSet rfl rfl rfl hdX11_comesSet ⟨Nat.le_of_ble_eq_true rfl, Nat.le_of_ble_eq_true rfl⟩) hK hA hP hD hS (ci := 11) (q0 := 0) rfl rfl rfl hl.1 rfl (Nat.le_of_ble_eq_true rfl) dX11_comes_197 ⟨Nat.le_of_ble_eq_true rfl, Nat.le_of_ble_eq_true rfl⟩ (fun H locs hP hD hS => ?_)
      refine lv_if_eq (tgt := 216) hx hb dX11_comes_200 (by decide) (fun c_79 => ?_) (fun c_79 => ?_)
      · have heq := it_t c_79 heq
        exact b216 st_76 H locs ls hP hD hS (lv_sub hl [1] rfl) heq
      have heq := it_f c_79 heq
      refine lv_aload_n hx hb dX11_comes_203 rfl (lv_at hl 1 rfl) ?_
      refine lv_iconst (v := (1 : Int32)) hx hb dX11_comes_204 (by decide) ?_
      refine lv_iload_n hx hb dX11_comes_205 rfl (lv_at hl 4 rfl) ?_
      obtain ⟨y_81, st_80, h_82, heq⟩ := bnd_h heq
      refine g_vi (own := RX11) (As := [.int (1 : Int32), .int v3]) (rest := []) hx hb hml hown hts (okX11_comesSet l D a T h_82) (cwV 2 hts gX11_comes_X11_comesSet rfl rfl rfl hdX11_comesSet ⟨Nat.le_of_ble_eq_true rfl, Nat.le_of_ble_eq_true rfl⟩) hK hA hP hD hS (ci := 11) (q0 := 0) rfl rfl rfl hl.1 rfl (Nat.le_of_ble_eq_true rfl) dX11_comes_206 ⟨Nat.le_of_ble_eq_true rfl, Nat.le_of_ble_eq_true rfl⟩ (fun H locs hP hD hS => ?_)
      refine lv_if_eq (tgt := 216) hx hb dX11_comes_209 (by decide) (fun c_83 => ?_) (fun c_83 => ?_)
      · have heq := it_t c_83 heq
        exact b216 st_80 H locs ls hP hD hS (lv_sub hl [1] rfl) heq
      have heq := it_f c_83 heq
      refine lv_iconst (v := (1 : Int32)) hx hb dX11_comes_212 (by decide) ?_
      refine lv_goto (tgt := 217) hx hb dX11_comes_213 (by decide) ?_
      exact b217 st_80 (1 : Int32) H locs ls hP hD hS (lv_sub hl [1] rfl) heq
    have heq := it_f c_74 heq
    by_cases c_84 : x_9 = (109 : Int32)
    · have heq := it_t c_84 heq
      refine lv_tableIn (tgt := 355) hx hb dX11_comes_40 (by rw [c_84]; decide) (by rw [c_84]; decide) (by rw [c_84]; rfl) (by decide) ?_
      refine lv_iload hx hb dX11_comes_355 (lv_at hl 0 rfl) ?_
      refine lv_if_eq (tgt := 372) hx hb dX11_comes_357 (by decide) (fun c_85 => ?_) (fun c_85 => ?_)
      · have heq := it_t c_85 heq
        refine lv_iconst (v := (0 : Int32)) hx hb dX11_comes_372 (by decide) ?_
        exact b373 st (0 : Int32) H locs ls hP hD hS (lv_sub hl [] rfl) heq
      have heq := it_f c_85 heq
      refine lv_aload_n hx hb dX11_comes_360 rfl (lv_at hl 1 rfl) ?_
      refine lv_iload_n hx hb dX11_comes_361 rfl (lv_at hl 3 rfl) ?_
      obtain ⟨y_87, st_86, h_88, heq⟩ := bnd_h heq
      refine g_vi (own := RX11) (As := [.int v2]) (rest := []) hx hb hml hown hts (okX11_minutesCome l D a T h_88) (cwV 1 hts gX11_comes_X11_minutesCome rfl rfl rfl hdX11_minutesCome ⟨Nat.le_of_ble_eq_true rfl, Nat.le_of_ble_eq_true rfl⟩) hK hA hP hD hS (ci := 11) (q0 := 0) rfl rfl rfl hl.1 rfl (Nat.le_of_ble_eq_true rfl) dX11_comes_362 ⟨Nat.le_of_ble_eq_true rfl, Nat.le_of_ble_eq_true rfl⟩ (fun H locs hP hD hS => ?_)
      refine lv_if_eq (tgt := 372) hx hb dX11_comes_365 (by decide) (fun c_89 => ?_) (fun c_89 => ?_)
      · have heq := it_t c_89 heq
        refine lv_iconst (v := (0 : Int32)) hx hb dX11_comes_372 (by decide) ?_
        exact b373 st_86 (0 : Int32) H locs ls hP hD hS (lv_sub hl [] rfl) heq
      have heq := it_f c_89 heq
      refine lv_iconst (v := (1 : Int32)) hx hb dX11_comes_368 (by decide) ?_
      refine lv_goto (tgt := 373) hx hb dX11_comes_369 (by decide) ?_
      exact b373 st_86 (1 : Int32) H locs ls hP hD hS (lv_sub hl [] rfl) heq
    have heq := it_f c_84 heq
    by_cases c_90 : x_9 = (110 : Int32)
    · have heq := it_t c_90 heq
      refine lv_tableIn (tgt := 355) hx hb dX11_comes_40 (by rw [c_90]; decide) (by rw [c_90]; decide) (by rw [c_90]; rfl) (by decide) ?_
      refine lv_iload hx hb dX11_comes_355 (lv_at hl 0 rfl) ?_
      refine lv_if_eq (tgt := 372) hx hb dX11_comes_357 (by decide) (fun c_91 => ?_) (fun c_91 => ?_)
      · have heq := it_t c_91 heq
        refine lv_iconst (v := (0 : Int32)) hx hb dX11_comes_372 (by decide) ?_
        exact b373 st (0 : Int32) H locs ls hP hD hS (lv_sub hl [] rfl) heq
      have heq := it_f c_91 heq
      refine lv_aload_n hx hb dX11_comes_360 rfl (lv_at hl 1 rfl) ?_
      refine lv_iload_n hx hb dX11_comes_361 rfl (lv_at hl 3 rfl) ?_
      obtain ⟨y_93, st_92, h_94, heq⟩ := bnd_h heq
      refine g_vi (own := RX11) (As := [.int v2]) (rest := []) hx hb hml hown hts (okX11_minutesCome l D a T h_94) (cwV 1 hts gX11_comes_X11_minutesCome rfl rfl rfl hdX11_minutesCome ⟨Nat.le_of_ble_eq_true rfl, Nat.le_of_ble_eq_true rfl⟩) hK hA hP hD hS (ci := 11) (q0 := 0) rfl rfl rfl hl.1 rfl (Nat.le_of_ble_eq_true rfl) dX11_comes_362 ⟨Nat.le_of_ble_eq_true rfl, Nat.le_of_ble_eq_true rfl⟩ (fun H locs hP hD hS => ?_)
      refine lv_if_eq (tgt := 372) hx hb dX11_comes_365 (by decide) (fun c_95 => ?_) (fun c_95 => ?_)
      · have heq := it_t c_95 heq
        refine lv_iconst (v := (0 : Int32)) hx hb dX11_comes_372 (by decide) ?_
        exact b373 st_92 (0 : Int32) H locs ls hP hD hS (lv_sub hl [] rfl) heq
      have heq := it_f c_95 heq
      refine lv_iconst (v := (1 : Int32)) hx hb dX11_comes_368 (by decide) ?_
      refine lv_goto (tgt := 373) hx hb dX11_comes_369 (by decide) ?_
      exact b373 st_92 (1 : Int32) H locs ls hP hD hS (lv_sub hl [] rfl) heq
    have heq := it_f c_90 heq
    by_cases c_96 : x_9 = (111 : Int32)
    · have heq := it_t c_96 heq
      refine lv_tableIn (tgt := 148) hx hb dX11_comes_40 (by rw [c_96]; decide) (by rw [c_96]; decide) (by rw [c_96]; rfl) (by decide) ?_
      refine lv_aload_n hx hb dX11_comes_148 rfl (lv_at hl 1 rfl) ?_
      refine lv_iload_n hx hb dX11_comes_149 rfl (lv_at hl 3 rfl) ?_
      refine lv_iload_n hx hb dX11_comes_150 rfl (lv_at hl 4 rfl) ?_
      obtain ⟨y_98, st_97, h_99, heq⟩ := bnd_h heq
      refine g_vi (own := RX11) (As := [.int v2, .int v3]) (rest := []) hx hb hml hown hts (okX11_houseComes l D a T h_99) (cwV 2 hts gX11_comes_X11_houseComes rfl rfl rfl hdX11_houseComes ⟨Nat.le_of_ble_eq_true rfl, Nat.le_of_ble_eq_true rfl⟩) hK hA hP hD hS (ci := 11) (q0 := 0) rfl rfl rfl hl.1 rfl (Nat.le_of_ble_eq_true rfl) dX11_comes_151 ⟨Nat.le_of_ble_eq_true rfl, Nat.le_of_ble_eq_true rfl⟩ (fun H locs hP hD hS => ?_)
      obtain ⟨n_100, _, heq⟩ := gz_h heq
      obtain ⟨heq, heq2⟩ := ret_h heq
      subst heq
      subst heq2
      exact hret 154 H locs ls hP hD hS n_100 dX11_comes_154
    have heq := it_f c_96 heq
    by_cases c_101 : x_9 = (112 : Int32)
    · have heq := it_t c_101 heq
      refine lv_tableIn (tgt := 355) hx hb dX11_comes_40 (by rw [c_101]; decide) (by rw [c_101]; decide) (by rw [c_101]; rfl) (by decide) ?_
      refine lv_iload hx hb dX11_comes_355 (lv_at hl 0 rfl) ?_
      refine lv_if_eq (tgt := 372) hx hb dX11_comes_357 (by decide) (fun c_102 => ?_) (fun c_102 => ?_)
      · have heq := it_t c_102 heq
        refine lv_iconst (v := (0 : Int32)) hx hb dX11_comes_372 (by decide) ?_
        exact b373 st (0 : Int32) H locs ls hP hD hS (lv_sub hl [] rfl) heq
      have heq := it_f c_102 heq
      refine lv_aload_n hx hb dX11_comes_360 rfl (lv_at hl 1 rfl) ?_
      refine lv_iload_n hx hb dX11_comes_361 rfl (lv_at hl 3 rfl) ?_
      obtain ⟨y_104, st_103, h_105, heq⟩ := bnd_h heq
      refine g_vi (own := RX11) (As := [.int v2]) (rest := []) hx hb hml hown hts (okX11_minutesCome l D a T h_105) (cwV 1 hts gX11_comes_X11_minutesCome rfl rfl rfl hdX11_minutesCome ⟨Nat.le_of_ble_eq_true rfl, Nat.le_of_ble_eq_true rfl⟩) hK hA hP hD hS (ci := 11) (q0 := 0) rfl rfl rfl hl.1 rfl (Nat.le_of_ble_eq_true rfl) dX11_comes_362 ⟨Nat.le_of_ble_eq_true rfl, Nat.le_of_ble_eq_true rfl⟩ (fun H locs hP hD hS => ?_)
      refine lv_if_eq (tgt := 372) hx hb dX11_comes_365 (by decide) (fun c_106 => ?_) (fun c_106 => ?_)
      · have heq := it_t c_106 heq
        refine lv_iconst (v := (0 : Int32)) hx hb dX11_comes_372 (by decide) ?_
        exact b373 st_103 (0 : Int32) H locs ls hP hD hS (lv_sub hl [] rfl) heq
      have heq := it_f c_106 heq
      refine lv_iconst (v := (1 : Int32)) hx hb dX11_comes_368 (by decide) ?_
      refine lv_goto (tgt := 373) hx hb dX11_comes_369 (by decide) ?_
      exact b373 st_103 (1 : Int32) H locs ls hP hD hS (lv_sub hl [] rfl) heq
    have heq := it_f c_101 heq
    by_cases c_107 : x_9 = (113 : Int32)
    · have heq := it_t c_107 heq
      refine lv_tableIn (tgt := 355) hx hb dX11_comes_40 (by rw [c_107]; decide) (by rw [c_107]; decide) (by rw [c_107]; rfl) (by decide) ?_
      refine lv_iload hx hb dX11_comes_355 (lv_at hl 0 rfl) ?_
      refine lv_if_eq (tgt := 372) hx hb dX11_comes_357 (by decide) (fun c_108 => ?_) (fun c_108 => ?_)
      · have heq := it_t c_108 heq
        refine lv_iconst (v := (0 : Int32)) hx hb dX11_comes_372 (by decide) ?_
        exact b373 st (0 : Int32) H locs ls hP hD hS (lv_sub hl [] rfl) heq
      have heq := it_f c_108 heq
      refine lv_aload_n hx hb dX11_comes_360 rfl (lv_at hl 1 rfl) ?_
      refine lv_iload_n hx hb dX11_comes_361 rfl (lv_at hl 3 rfl) ?_
      obtain ⟨y_110, st_109, h_111, heq⟩ := bnd_h heq
      refine g_vi (own := RX11) (As := [.int v2]) (rest := []) hx hb hml hown hts (okX11_minutesCome l D a T h_111) (cwV 1 hts gX11_comes_X11_minutesCome rfl rfl rfl hdX11_minutesCome ⟨Nat.le_of_ble_eq_true rfl, Nat.le_of_ble_eq_true rfl⟩) hK hA hP hD hS (ci := 11) (q0 := 0) rfl rfl rfl hl.1 rfl (Nat.le_of_ble_eq_true rfl) dX11_comes_362 ⟨Nat.le_of_ble_eq_true rfl, Nat.le_of_ble_eq_true rfl⟩ (fun H locs hP hD hS => ?_)
      refine lv_if_eq (tgt := 372) hx hb dX11_comes_365 (by decide) (fun c_112 => ?_) (fun c_112 => ?_)
      · have heq := it_t c_112 heq
        refine lv_iconst (v := (0 : Int32)) hx hb dX11_comes_372 (by decide) ?_
        exact b373 st_109 (0 : Int32) H locs ls hP hD hS (lv_sub hl [] rfl) heq
      have heq := it_f c_112 heq
      refine lv_iconst (v := (1 : Int32)) hx hb dX11_comes_368 (by decide) ?_
      refine lv_goto (tgt := 373) hx hb dX11_comes_369 (by decide) ?_
      exact b373 st_109 (1 : Int32) H locs ls hP hD hS (lv_sub hl [] rfl) heq
    have heq := it_f c_107 heq
    by_cases c_113 : x_9 = (114 : Int32)
    · have heq := it_t c_113 heq
      refine lv_tableIn (tgt := 355) hx hb dX11_comes_40 (by rw [c_113]; decide) (by rw [c_113]; decide) (by rw [c_113]; rfl) (by decide) ?_
      refine lv_iload hx hb dX11_comes_355 (lv_at hl 0 rfl) ?_
      refine lv_if_eq (tgt := 372) hx hb dX11_comes_357 (by decide) (fun c_114 => ?_) (fun c_114 => ?_)
      · have heq := it_t c_114 heq
        refine lv_iconst (v := (0 : Int32)) hx hb dX11_comes_372 (by decide) ?_
        exact b373 st (0 : Int32) H locs ls hP hD hS (lv_sub hl [] rfl) heq
      have heq := it_f c_114 heq
      refine lv_aload_n hx hb dX11_comes_360 rfl (lv_at hl 1 rfl) ?_
      refine lv_iload_n hx hb dX11_comes_361 rfl (lv_at hl 3 rfl) ?_
      obtain ⟨y_116, st_115, h_117, heq⟩ := bnd_h heq
      refine g_vi (own := RX11) (As := [.int v2]) (rest := []) hx hb hml hown hts (okX11_minutesCome l D a T h_117) (cwV 1 hts gX11_comes_X11_minutesCome rfl rfl rfl hdX11_minutesCome ⟨Nat.le_of_ble_eq_true rfl, Nat.le_of_ble_eq_true rfl⟩) hK hA hP hD hS (ci := 11) (q0 := 0) rfl rfl rfl hl.1 rfl (Nat.le_of_ble_eq_true rfl) dX11_comes_362 ⟨Nat.le_of_ble_eq_true rfl, Nat.le_of_ble_eq_true rfl⟩ (fun H locs hP hD hS => ?_)
      refine lv_if_eq (tgt := 372) hx hb dX11_comes_365 (by decide) (fun c_118 => ?_) (fun c_118 => ?_)
      · have heq := it_t c_118 heq
        refine lv_iconst (v := (0 : Int32)) hx hb dX11_comes_372 (by decide) ?_
        exact b373 st_115 (0 : Int32) H locs ls hP hD hS (lv_sub hl [] rfl) heq
      have heq := it_f c_118 heq
      refine lv_iconst (v := (1 : Int32)) hx hb dX11_comes_368 (by decide) ?_
      refine lv_goto (tgt := 373) hx hb dX11_comes_369 (by decide) ?_
      exact b373 st_115 (1 : Int32) H locs ls hP hD hS (lv_sub hl [] rfl) heq
    have heq := it_f c_113 heq
    by_cases c_119 : x_9 = (115 : Int32)
    · have heq := it_t c_119 heq
      refine lv_tableIn (tgt := 355) hx hb dX11_comes_40 (by rw [c_119]; decide) (by rw [c_119]; decide) (by rw [c_119]; rfl) (by decide) ?_
      refine lv_iload hx hb dX11_comes_355 (lv_at hl 0 rfl) ?_
      refine lv_if_eq (tgt := 372) hx hb dX11_comes_357 (by decide) (fun c_120 => ?_) (fun c_120 => ?_)
      · have heq := it_t c_120 heq
        refine lv_iconst (v := (0 : Int32)) hx hb dX11_comes_372 (by decide) ?_
        exact b373 st (0 : Int32) H locs ls hP hD hS (lv_sub hl [] rfl) heq
      have heq := it_f c_120 heq
      refine lv_aload_n hx hb dX11_comes_360 rfl (lv_at hl 1 rfl) ?_
      refine lv_iload_n hx hb dX11_comes_361 rfl (lv_at hl 3 rfl) ?_
      obtain ⟨y_122, st_121, h_123, heq⟩ := bnd_h heq
      refine g_vi (own := RX11) (As := [.int v2]) (rest := []) hx hb hml hown hts (okX11_minutesCome l D a T h_123) (cwV 1 hts gX11_comes_X11_minutesCome rfl rfl rfl hdX11_minutesCome ⟨Nat.le_of_ble_eq_true rfl, Nat.le_of_ble_eq_true rfl⟩) hK hA hP hD hS (ci := 11) (q0 := 0) rfl rfl rfl hl.1 rfl (Nat.le_of_ble_eq_true rfl) dX11_comes_362 ⟨Nat.le_of_ble_eq_true rfl, Nat.le_of_ble_eq_true rfl⟩ (fun H locs hP hD hS => ?_)
      refine lv_if_eq (tgt := 372) hx hb dX11_comes_365 (by decide) (fun c_124 => ?_) (fun c_124 => ?_)
      · have heq := it_t c_124 heq
        refine lv_iconst (v := (0 : Int32)) hx hb dX11_comes_372 (by decide) ?_
        exact b373 st_121 (0 : Int32) H locs ls hP hD hS (lv_sub hl [] rfl) heq
      have heq := it_f c_124 heq
      refine lv_iconst (v := (1 : Int32)) hx hb dX11_comes_368 (by decide) ?_
      refine lv_goto (tgt := 373) hx hb dX11_comes_369 (by decide) ?_
      exact b373 st_121 (1 : Int32) H locs ls hP hD hS (lv_sub hl [] rfl) heq
    have heq := it_f c_119 heq
    by_cases c_125 : x_9 = (116 : Int32)
    · have heq := it_t c_125 heq
      refine lv_tableIn (tgt := 355) hx hb dX11_comes_40 (by rw [c_125]; decide) (by rw [c_125]; decide) (by rw [c_125]; rfl) (by decide) ?_
      refine lv_iload hx hb dX11_comes_355 (lv_at hl 0 rfl) ?_
      refine lv_if_eq (tgt := 372) hx hb dX11_comes_357 (by decide) (fun c_126 => ?_) (fun c_126 => ?_)
      · have heq := it_t c_126 heq
        refine lv_iconst (v := (0 : Int32)) hx hb dX11_comes_372 (by decide) ?_
        exact b373 st (0 : Int32) H locs ls hP hD hS (lv_sub hl [] rfl) heq
      have heq := it_f c_126 heq
      refine lv_aload_n hx hb dX11_comes_360 rfl (lv_at hl 1 rfl) ?_
      refine lv_iload_n hx hb dX11_comes_361 rfl (lv_at hl 3 rfl) ?_
      obtain ⟨y_128, st_127, h_129, heq⟩ := bnd_h heq
      refine g_vi (own := RX11) (As := [.int v2]) (rest := []) hx hb hml hown hts (okX11_minutesCome l D a T h_129) (cwV 1 hts gX11_comes_X11_minutesCome rfl rfl rfl hdX11_minutesCome ⟨Nat.le_of_ble_eq_true rfl, Nat.le_of_ble_eq_true rfl⟩) hK hA hP hD hS (ci := 11) (q0 := 0) rfl rfl rfl hl.1 rfl (Nat.le_of_ble_eq_true rfl) dX11_comes_362 ⟨Nat.le_of_ble_eq_true rfl, Nat.le_of_ble_eq_true rfl⟩ (fun H locs hP hD hS => ?_)
      refine lv_if_eq (tgt := 372) hx hb dX11_comes_365 (by decide) (fun c_130 => ?_) (fun c_130 => ?_)
      · have heq := it_t c_130 heq
        refine lv_iconst (v := (0 : Int32)) hx hb dX11_comes_372 (by decide) ?_
        exact b373 st_127 (0 : Int32) H locs ls hP hD hS (lv_sub hl [] rfl) heq
      have heq := it_f c_130 heq
      refine lv_iconst (v := (1 : Int32)) hx hb dX11_comes_368 (by decide) ?_
      refine lv_goto (tgt := 373) hx hb dX11_comes_369 (by decide) ?_
      exact b373 st_127 (1 : Int32) H locs ls hP hD hS (lv_sub hl [] rfl) heq
    have heq := it_f c_125 heq
    by_cases c_131 : x_9 = (117 : Int32)
    · have heq := it_t c_131 heq
      refine lv_tableIn (tgt := 355) hx hb dX11_comes_40 (by rw [c_131]; decide) (by rw [c_131]; decide) (by rw [c_131]; rfl) (by decide) ?_
      refine lv_iload hx hb dX11_comes_355 (lv_at hl 0 rfl) ?_
      refine lv_if_eq (tgt := 372) hx hb dX11_comes_357 (by decide) (fun c_132 => ?_) (fun c_132 => ?_)
      · have heq := it_t c_132 heq
        refine lv_iconst (v := (0 : Int32)) hx hb dX11_comes_372 (by decide) ?_
        exact b373 st (0 : Int32) H locs ls hP hD hS (lv_sub hl [] rfl) heq
      have heq := it_f c_132 heq
      refine lv_aload_n hx hb dX11_comes_360 rfl (lv_at hl 1 rfl) ?_
      refine lv_iload_n hx hb dX11_comes_361 rfl (lv_at hl 3 rfl) ?_
      obtain ⟨y_134, st_133, h_135, heq⟩ := bnd_h heq
      refine g_vi (own := RX11) (As := [.int v2]) (rest := []) hx hb hml hown hts (okX11_minutesCome l D a T h_135) (cwV 1 hts gX11_comes_X11_minutesCome rfl rfl rfl hdX11_minutesCome ⟨Nat.le_of_ble_eq_true rfl, Nat.le_of_ble_eq_true rfl⟩) hK hA hP hD hS (ci := 11) (q0 := 0) rfl rfl rfl hl.1 rfl (Nat.le_of_ble_eq_true rfl) dX11_comes_362 ⟨Nat.le_of_ble_eq_true rfl, Nat.le_of_ble_eq_true rfl⟩ (fun H locs hP hD hS => ?_)
      refine lv_if_eq (tgt := 372) hx hb dX11_comes_365 (by decide) (fun c_136 => ?_) (fun c_136 => ?_)
      · have heq := it_t c_136 heq
        refine lv_iconst (v := (0 : Int32)) hx hb dX11_comes_372 (by decide) ?_
        exact b373 st_133 (0 : Int32) H locs ls hP hD hS (lv_sub hl [] rfl) heq
      have heq := it_f c_136 heq
      refine lv_iconst (v := (1 : Int32)) hx hb dX11_comes_368 (by decide) ?_
      refine lv_goto (tgt := 373) hx hb dX11_comes_369 (by decide) ?_
      exact b373 st_133 (1 : Int32) H locs ls hP hD hS (lv_sub hl [] rfl) heq
    have heq := it_f c_131 heq
    by_cases c_137 : x_9 = (118 : Int32)
    · have heq := it_t c_137 heq
      refine lv_tableIn (tgt := 355) hx hb dX11_comes_40 (by rw [c_137]; decide) (by rw [c_137]; decide) (by rw [c_137]; rfl) (by decide) ?_
      refine lv_iload hx hb dX11_comes_355 (lv_at hl 0 rfl) ?_
      refine lv_if_eq (tgt := 372) hx hb dX11_comes_357 (by decide) (fun c_138 => ?_) (fun c_138 => ?_)
      · have heq := it_t c_138 heq
        refine lv_iconst (v := (0 : Int32)) hx hb dX11_comes_372 (by decide) ?_
        exact b373 st (0 : Int32) H locs ls hP hD hS (lv_sub hl [] rfl) heq
      have heq := it_f c_138 heq
      refine lv_aload_n hx hb dX11_comes_360 rfl (lv_at hl 1 rfl) ?_
      refine lv_iload_n hx hb dX11_comes_361 rfl (lv_at hl 3 rfl) ?_
      obtain ⟨y_140, st_139, h_141, heq⟩ := bnd_h heq
      refine g_vi (own := RX11) (As := [.int v2]) (rest := []) hx hb hml hown hts (okX11_minutesCome l D a T h_141) (cwV 1 hts gX11_comes_X11_minutesCome rfl rfl rfl hdX11_minutesCome ⟨Nat.le_of_ble_eq_true rfl, Nat.le_of_ble_eq_true rfl⟩) hK hA hP hD hS (ci := 11) (q0 := 0) rfl rfl rfl hl.1 rfl (Nat.le_of_ble_eq_true rfl) dX11_comes_362 ⟨Nat.le_of_ble_eq_true rfl, Nat.le_of_ble_eq_true rfl⟩ (fun H locs hP hD hS => ?_)
      refine lv_if_eq (tgt := 372) hx hb dX11_comes_365 (by decide) (fun c_142 => ?_) (fun c_142 => ?_)
      · have heq := it_t c_142 heq
        refine lv_iconst (v := (0 : Int32)) hx hb dX11_comes_372 (by decide) ?_
        exact b373 st_139 (0 : Int32) H locs ls hP hD hS (lv_sub hl [] rfl) heq
      have heq := it_f c_142 heq
      refine lv_iconst (v := (1 : Int32)) hx hb dX11_comes_368 (by decide) ?_
      refine lv_goto (tgt := 373) hx hb dX11_comes_369 (by decide) ?_
      exact b373 st_139 (1 : Int32) H locs ls hP hD hS (lv_sub hl [] rfl) heq
    have heq := it_f c_137 heq
    by_cases c_143 : x_9 = (119 : Int32)
    · have heq := it_t c_143 heq
      refine lv_tableIn (tgt := 222) hx hb dX11_comes_40 (by rw [c_143]; decide) (by rw [c_143]; decide) (by rw [c_143]; rfl) (by decide) ?_
      refine lv_iload hx hb dX11_comes_222 (lv_at hl 0 rfl) ?_
      refine lv_if_eq (tgt := 249) hx hb dX11_comes_224 (by decide) (fun c_144 => ?_) (fun c_144 => ?_)
      · have heq := it_t c_144 heq
        exact b249 st H locs ls hP hD hS (lv_sub hl [1] rfl) heq
      have heq := it_f c_144 heq
      refine lv_aload_n hx hb dX11_comes_227 rfl (lv_at hl 1 rfl) ?_
      refine lv_iconst (v := (2 : Int32)) hx hb dX11_comes_228 (by decide) ?_
      refine lv_iload_n hx hb dX11_comes_229 rfl (lv_at hl 3 rfl) ?_
      obtain ⟨y_146, st_145, h_147, heq⟩ := bnd_h heq
      refine g_vi (own := RX11) (As := [.int (2 : Int32), .int v2]) (rest := []) hx hb hml hown hts (okX11_comesSet l D a T h_147) (cwV 2 hts gX11_comes_X11_comesSet rfl rfl rfl hdX11_comesSet ⟨Nat.le_of_ble_eq_true rfl, Nat.le_of_ble_eq_true rfl⟩) hK hA hP hD hS (ci := 11) (q0 := 0) rfl rfl rfl hl.1 rfl (Nat.le_of_ble_eq_true rfl) dX11_comes_230 ⟨Nat.le_of_ble_eq_true rfl, Nat.le_of_ble_eq_true rfl⟩ (fun H locs hP hD hS => ?_)
      refine lv_if_eq (tgt := 249) hx hb dX11_comes_233 (by decide) (fun c_148 => ?_) (fun c_148 => ?_)
      · have heq := it_t c_148 heq
        exact b249 st_145 H locs ls hP hD hS (lv_sub hl [1] rfl) heq
      have heq := it_f c_148 heq
      refine lv_aload_n hx hb dX11_comes_236 rfl (lv_at hl 1 rfl) ?_
      refine lv_iconst (v := (3 : Int32)) hx hb dX11_comes_237 (by decide) ?_
      refine lv_iload_n hx hb dX11_comes_238 rfl (lv_at hl 4 rfl) ?_
      obtain ⟨y_150, st_149, h_151, heq⟩ := bnd_h heq
      refine g_vi (own := RX11) (As := [.int (3 : Int32), .int v3]) (rest := []) hx hb hml hown hts (okX11_comesSet l D a T h_151) (cwV 2 hts gX11_comes_X11_comesSet rfl rfl rfl hdX11_comesSet ⟨Nat.le_of_ble_eq_true rfl, Nat.le_of_ble_eq_true rfl⟩) hK hA hP hD hS (ci := 11) (q0 := 0) rfl rfl rfl hl.1 rfl (Nat.le_of_ble_eq_true rfl) dX11_comes_239 ⟨Nat.le_of_ble_eq_true rfl, Nat.le_of_ble_eq_true rfl⟩ (fun H locs hP hD hS => ?_)
      refine lv_if_eq (tgt := 249) hx hb dX11_comes_242 (by decide) (fun c_152 => ?_) (fun c_152 => ?_)
      · have heq := it_t c_152 heq
        exact b249 st_149 H locs ls hP hD hS (lv_sub hl [1] rfl) heq
      have heq := it_f c_152 heq
      refine lv_iconst (v := (1 : Int32)) hx hb dX11_comes_245 (by decide) ?_
      refine lv_goto (tgt := 250) hx hb dX11_comes_246 (by decide) ?_
      exact b250 st_149 (1 : Int32) H locs ls hP hD hS (lv_sub hl [1] rfl) heq
    have heq := it_f c_143 heq
    refine lv_tableOut (tgt := 355) hx hb dX11_comes_40 (sw_out fun k h1 h2 => ?_) (by decide) ?_
    · rcases (show k = 97 ∨ k = 98 ∨ k = 99 ∨ k = 100 ∨ k = 101 ∨ k = 102 ∨ k = 103 ∨ k = 104 ∨ k = 105 ∨ k = 106 ∨ k = 107 ∨ k = 108 ∨ k = 109 ∨ k = 110 ∨ k = 111 ∨ k = 112 ∨ k = 113 ∨ k = 114 ∨ k = 115 ∨ k = 116 ∨ k = 117 ∨ k = 118 ∨ k = 119 by omega) with rfl | rfl | rfl | rfl | rfl | rfl | rfl | rfl | rfl | rfl | rfl | rfl | rfl | rfl | rfl | rfl | rfl | rfl | rfl | rfl | rfl | rfl | rfl
      · exact c_10
      · exact c_16
      · exact c_22
      · exact c_29
      · exact c_35
      · exact c_41
      · exact c_44
      · exact c_50
      · exact c_56
      · exact c_62
      · exact c_68
      · exact c_74
      · exact c_84
      · exact c_90
      · exact c_96
      · exact c_101
      · exact c_107
      · exact c_113
      · exact c_119
      · exact c_125
      · exact c_131
      · exact c_137
      · exact c_143
    refine lv_iload hx hb dX11_comes_355 (lv_at hl 0 rfl) ?_
    refine lv_if_eq (tgt := 372) hx hb dX11_comes_357 (by decide) (fun c_153 => ?_) (fun c_153 => ?_)
    · have heq := it_t c_153 heq
      refine lv_iconst (v := (0 : Int32)) hx hb dX11_comes_372 (by decide) ?_
      exact b373 st (0 : Int32) H locs ls hP hD hS (lv_sub hl [] rfl) heq
    have heq := it_f c_153 heq
    refine lv_aload_n hx hb dX11_comes_360 rfl (lv_at hl 1 rfl) ?_
    refine lv_iload_n hx hb dX11_comes_361 rfl (lv_at hl 3 rfl) ?_
    obtain ⟨y_155, st_154, h_156, heq⟩ := bnd_h heq
    refine g_vi (own := RX11) (As := [.int v2]) (rest := []) hx hb hml hown hts (okX11_minutesCome l D a T h_156) (cwV 1 hts gX11_comes_X11_minutesCome rfl rfl rfl hdX11_minutesCome ⟨Nat.le_of_ble_eq_true rfl, Nat.le_of_ble_eq_true rfl⟩) hK hA hP hD hS (ci := 11) (q0 := 0) rfl rfl rfl hl.1 rfl (Nat.le_of_ble_eq_true rfl) dX11_comes_362 ⟨Nat.le_of_ble_eq_true rfl, Nat.le_of_ble_eq_true rfl⟩ (fun H locs hP hD hS => ?_)
    refine lv_if_eq (tgt := 372) hx hb dX11_comes_365 (by decide) (fun c_157 => ?_) (fun c_157 => ?_)
    · have heq := it_t c_157 heq
      refine lv_iconst (v := (0 : Int32)) hx hb dX11_comes_372 (by decide) ?_
      exact b373 st_154 (0 : Int32) H locs ls hP hD hS (lv_sub hl [] rfl) heq
    have heq := it_f c_157 heq
    refine lv_iconst (v := (1 : Int32)) hx hb dX11_comes_368 (by decide) ?_
    refine lv_goto (tgt := 373) hx hb dX11_comes_369 (by decide) ?_
    exact b373 st_154 (1 : Int32) H locs ls hP hD hS (lv_sub hl [] rfl) heq
  obtain ⟨H, hH⟩ : ∃ H, H = s.heap := ⟨_, rfl⟩
  obtain ⟨locs, hlocs⟩ : ∃ z : List Loc, z = [] := ⟨_, rfl⟩
  have hS : va_S A s.heap H locs := by rw [hH, hlocs]; exact hS
  have hP : va_P D vwCl (mW a T st) H := by rw [hH]; exact hP
  suffices h9 : W p l e rmX11_comes s m args below meth c H locs 0 0 Q (F0 m 0 ls []) by rw [hH, hlocs] at h9; exact h9
  clear hH hlocs
  unfold X11_comes at heq
  refine lv_aload_n hx hb dX11_comes_0 rfl (lv_at hl 0 rfl) ?_
  refine mg (k := 25) (v := .ref (a 17)) hx hb hts hin hown hK hP (by decide) f59 rfl dX11_comes_1 rfl ?_
  refine lv_iconst (v := (3 : Int32)) hx hb dX11_comes_4 (by decide) ?_
  refine lv_iload_n hx hb dX11_comes_5 rfl (lv_at hl 1 rfl) ?_
  refine lv_imul hx hb dX11_comes_6 ?_
  obtain ⟨n_158, heq⟩ := inr_h heq
  refine mal (k := 25) (q := 17) (n := 153) hx hb hK hP rfl n_158 dX11_comes_7 ?_
  refine lv_topi (fun x_159 ex_159 => ?_)
  have heq := nm_h ex_159 heq
  refine lv_istore_n (lv' := [(2, .int x_159), (0, .ref (a 0)), (1, .int v1)]) hx hb dX11_comes_8 rfl hl (by decide) rfl (fun ls hl => ?_)
  refine lv_aload_n hx hb dX11_comes_9 rfl (lv_at hl 1 rfl) ?_
  refine mg (k := 25) (v := .ref (a 17)) hx hb hts hin hown hK hP (by decide) f59 rfl dX11_comes_10 rfl ?_
  refine lv_iconst (v := (3 : Int32)) hx hb dX11_comes_13 (by decide) ?_
  refine lv_iload_n hx hb dX11_comes_14 rfl (lv_at hl 2 rfl) ?_
  refine lv_imul hx hb dX11_comes_15 ?_
  refine lv_iconst (v := (1 : Int32)) hx hb dX11_comes_16 (by decide) ?_
  refine lv_iadd hx hb dX11_comes_17 ?_
  obtain ⟨n_160, heq⟩ := inr_h heq
  refine mal (k := 25) (q := 17) (n := 153) hx hb hK hP rfl n_160 dX11_comes_18 ?_
  refine lv_topi (fun x_161 ex_161 => ?_)
  have heq := nm_h ex_161 heq
  refine lv_istore_n (lv' := [(3, .int x_161), (2, .int x_159), (0, .ref (a 0)), (1, .int v1)]) hx hb dX11_comes_19 rfl hl (by decide) rfl (fun ls hl => ?_)
  refine lv_aload_n hx hb dX11_comes_20 rfl (lv_at hl 2 rfl) ?_
  refine mg (k := 7) (v := .int (gF st 7)) hx hb hts hin hown hK hP (by decide) f122 rfl dX11_comes_21 rfl ?_
  refine lv_if_ne (tgt := 31) hx hb dX11_comes_24 (by decide) (fun c_162 => ?_) (fun c_162 => ?_)
  · have heq := it_f c_162 heq
    refine lv_iconst (v := (0 : Int32)) hx hb dX11_comes_31 (by decide) ?_
    exact b32 st v1 x_159 x_161 (0 : Int32) H locs ls hP hD hS (lv_sub hl [2, 3, 1, 0] rfl) heq
  have heq := it_t c_162 heq
  refine lv_iconst (v := (1 : Int32)) hx hb dX11_comes_27 (by decide) ?_
  refine lv_goto (tgt := 32) hx hb dX11_comes_28 (by decide) ?_
  exact b32 st v1 x_159 x_161 (1 : Int32) H locs ls hP hD hS (lv_sub hl [2, 3, 1, 0] rfl) heq
theorem dX11_carry_0 : decode cX11_carry 0 = .ok (.aload_n 0, 1) := by decide +kernel
theorem dX11_carry_1 : decode cX11_carry 1 = .ok (.getfield 207, 3) := by decide +kernel
theorem dX11_carry_4 : decode cX11_carry 4 = .ok (.ifCond .eq 13, 3) := by decide +kernel
theorem dX11_carry_7 : decode cX11_carry 7 = .ok (.aload_n 0, 1) := by decide +kernel
theorem dX11_carry_8 : decode cX11_carry 8 = .ok (.getfield 210, 3) := by decide +kernel
theorem dX11_carry_11 : decode cX11_carry 11 = .ok (.aload_n 0, 1) := by decide +kernel
theorem dX11_carry_12 : decode cX11_carry 12 = .ok (.getfield 213, 3) := by decide +kernel
theorem dX11_carry_15 : decode cX11_carry 15 = .ok (.iload_n 1, 1) := by decide +kernel
theorem dX11_carry_16 : decode cX11_carry 16 = .ok (.iastore, 1) := by decide +kernel
theorem dX11_carry_17 : decode cX11_carry 17 = .ok (.aload_n 0, 1) := by decide +kernel
theorem dX11_carry_18 : decode cX11_carry 18 = .ok (.dup, 1) := by decide +kernel
theorem dX11_carry_19 : decode cX11_carry 19 = .ok (.getfield 213, 3) := by decide +kernel
theorem dX11_carry_22 : decode cX11_carry 22 = .ok (.iconst 1, 1) := by decide +kernel
theorem dX11_carry_23 : decode cX11_carry 23 = .ok (.iadd, 1) := by decide +kernel
theorem dX11_carry_24 : decode cX11_carry 24 = .ok (.putfield 213, 3) := by decide +kernel
theorem dX11_carry_27 : decode cX11_carry 27 = .ok (.aload_n 0, 1) := by decide +kernel
theorem dX11_carry_28 : decode cX11_carry 28 = .ok (.getfield 210, 3) := by decide +kernel
theorem dX11_carry_31 : decode cX11_carry 31 = .ok (.aload_n 0, 1) := by decide +kernel
theorem dX11_carry_32 : decode cX11_carry 32 = .ok (.getfield 213, 3) := by decide +kernel
theorem dX11_carry_35 : decode cX11_carry 35 = .ok (.iconst 1, 1) := by decide +kernel
theorem dX11_carry_36 : decode cX11_carry 36 = .ok (.isub, 1) := by decide +kernel
theorem dX11_carry_37 : decode cX11_carry 37 = .ok (.iaload, 1) := by decide +kernel
theorem dX11_carry_38 : decode cX11_carry 38 = .ok (.ireturn, 1) := by decide +kernel
/-! carry -/
def X11_carry_p17 (st : MS) : Option (Int32 × MS) :=
    nm (sF st 29 ((gF st 29) + (1 : Int32))) fun st_1 =>
    kin st_1 fun j_2 =>
    inr ((gF st_1 29) - (1 : Int32)) 47 <|
    some ((gA st_1 (akf j_2) ((gF st_1 29) - (1 : Int32)).toNatClampNeg), st_1)
def X11_carry (st : MS) (v1 : Int32) : Option (Int32 × MS) :=
    if (gF st 30) = 0 then
      (X11_carry_p17 st)
    else
    kin st fun j_7 =>
    inr (gF st 29) 47 <|
    nm (sA st (akf j_7) (gF st 29).toNatClampNeg v1) fun st_13 =>
    X11_carry_p17 st_13
abbrev rmX11_carry : Room := { frames := 0, cells := 0, slots := 0, locals := 0 }
theorem hdX11_carry : yX11_carry.cls = RX11 ∧ yX11_carry.cls ≠ "java/lang/invoke/MethodHandle" ∧ yX11_carry.cls ≠ "java/lang/invoke/VarHandle" ∧ (parseMethodDescriptor yX11_carry.desc).map (fun d => d.parameters.length) = some 1 := by decide +kernel
set_option maxRecDepth 100000 in
set_option maxHeartbeats 4000000 in
theorem okX11_carry (l : Launch) (D : va_G) (a : Nat → Nat) (T : mT3) {st : MS} {v1 : Int32} {r : Int32} {st' : MS} (heq : X11_carry st v1 = some (r, st')) : gCi l D (mT T) yX11_carry wsX11_carry rmX11_carry [.ref (a 0), .int v1] (mW a T st) r (mW a T st') := by
  refine g_body_i (by decide) rfl (Nat.le_of_ble_eq_true rfl) (fun p e s m args below meth c A Q hx hb hml hown hts hK hA hret ls hP hD hS hl => ?_)
  have hl : lv_has ls 2 [(0, .ref (a 0)), (1, .int v1)] := hl
  have hin : ∀ w ∈ wsX110, w ∈ wsX11_carry := fun w h => List.mem_cons_of_mem _ (List.mem_append_right _ h)
  have f207 : (Cond.fieldLink RX11 207 RX11 (TX11 30).2.1 (TX11 30).2.2.1).before args s = true := hts (.fieldLink RX11 207 "LaidDownTheLaneModel" "isTaking" "Z") (by decide +kernel)
  have f210 : (Cond.fieldLink RX11 210 RX11 (TX11 31).2.1 (TX11 31).2.2.1).before args s = true := hts (.fieldLink RX11 210 "LaidDownTheLaneModel" "keptIn" "[I") (by decide +kernel)
  have f213 : (Cond.fieldLink RX11 213 RX11 (TX11 29).2.1 (TX11 29).2.2.1).before args s = true := hts (.fieldLink RX11 213 "LaidDownTheLaneModel" "place0" "I") (by decide +kernel)
  have b17 : ∀ (st : MS) (H : Heap) (locs : List Loc) (ls : Array Slot), va_P D vwCl (mW a T st) H → va_D A (mW a T st) → va_S A s.heap H locs → lv_has ls 2 [(0, .ref (a 0))] → X11_carry_p17  st = some (r, st') → W p l e rmX11_carry s m args below meth c H locs 0 0 Q (F0 m 17 ls []) := by
    intro st H locs ls hP hD hS hl heq
    unfold X11_carry_p17 at heq
    refine lv_aload_n hx hb dX11_carry_17 rfl (lv_at hl 0 rfl) ?_
    refine lv_dup hx hb dX11_carry_18 rfl ?_
    refine mg (k := 29) (v := .int (gF st 29)) hx hb hts hin hown hK hP (by decide) f213 rfl dX11_carry_19 rfl ?_
    refine lv_iconst (v := (1 : Int32)) hx hb dX11_carry_22 (by decide) ?_
    refine lv_iadd hx hb dX11_carry_23 ?_
    refine mp (k := 29) hx hb hts hin hown hK hP hD hS (by decide) f213 dX11_carry_24 rfl rfl rfl rfl (mset_29 ..) (fun H locs hP hD hS => ?_)
    obtain ⟨st_1, est_1⟩ : ∃ z, z = sF st 29 ((gF st 29) + (1 : Int32)) := ⟨_, rfl⟩
    rw [← est_1] at hP hD
    have heq := nm_h est_1 heq
    refine lv_aload_n hx hb dX11_carry_27 rfl (lv_at hl 0 rfl) ?_
    rcases kin_h heq with ⟨hk_j_2, heq⟩ | ⟨hk_j_2, heq⟩
    · refine mg (k := 31) (v := .ref (a 18)) hx hb hts hin hown hK hP (by decide) f210 (by show some (mKv a (gK st_1)) = _; rw [hk_j_2]; rfl) dX11_carry_28 rfl ?_
      refine lv_aload_n hx hb dX11_carry_31 rfl (lv_at hl 0 rfl) ?_
      refine mg (k := 29) (v := .int (gF st_1 29)) hx hb hts hin hown hK hP (by decide) f213 rfl dX11_carry_32 rfl ?_
      refine lv_iconst (v := (1 : Int32)) hx hb dX11_carry_35 (by decide) ?_
      refine lv_isub hx hb dX11_carry_36 ?_
      obtain ⟨n_3, heq⟩ := inr_h heq
      refine mal (k := 26) (q := 18) (n := 47) hx hb hK hP rfl n_3 dX11_carry_37 ?_
      obtain ⟨heq, heq2⟩ := ret_h heq
      subst heq
      subst heq2
      exact hret 38 H locs ls hP hD hS rfl dX11_carry_38
    · refine mg (k := 31) (v := .ref (a 19)) hx hb hts hin hown hK hP (by decide) f210 (by show some (mKv a (gK st_1)) = _; rw [hk_j_2]; rfl) dX11_carry_28 rfl ?_
      refine lv_aload_n hx hb dX11_carry_31 rfl (lv_at hl 0 rfl) ?_
      refine mg (k := 29) (v := .int (gF st_1 29)) hx hb hts hin hown hK hP (by decide) f213 rfl dX11_carry_32 rfl ?_
      refine lv_iconst (v := (1 : Int32)) hx hb dX11_carry_35 (by decide) ?_
      refine lv_isub hx hb dX11_carry_36 ?_
      obtain ⟨n_4, heq⟩ := inr_h heq
      refine mal (k := 27) (q := 19) (n := 47) hx hb hK hP rfl n_4 dX11_carry_37 ?_
      obtain ⟨heq, heq2⟩ := ret_h heq
      subst heq
      subst heq2
      exact hret 38 H locs ls hP hD hS rfl dX11_carry_38
  obtain ⟨H, hH⟩ : ∃ H, H = s.heap := ⟨_, rfl⟩
  obtain ⟨locs, hlocs⟩ : ∃ z : List Loc, z = [] := ⟨_, rfl⟩
  have hS : va_S A s.heap H locs := by rw [hH, hlocs]; exact hS
  have hP : va_P D vwCl (mW a T st) H := by rw [hH]; exact hP
  suffices h9 : W p l e rmX11_carry s m args below meth c H locs 0 0 Q (F0 m 0 ls []) by rw [hH, hlocs] at h9; exact h9
  clear hH hlocs
  unfold X11_carry at heq
  refine lv_aload_n hx hb dX11_carry_0 rfl (lv_at hl 0 rfl) ?_
  refine mg (k := 30) (v := .int (gF st 30)) hx hb hts hin hown hK hP (by decide) f207 rfl dX11_carry_1 rfl ?_
  refine lv_if_eq (tgt := 17) hx hb dX11_carry_4 (by decide) (fun c_6 => ?_) (fun c_6 => ?_)
  · have heq := it_t c_6 heq
    exact b17 st H locs ls hP hD hS (lv_sub hl [0] rfl) heq
  have heq := it_f c_6 heq
  refine lv_aload_n hx hb dX11_carry_7 rfl (lv_at hl 0 rfl) ?_
  rcases kin_h heq with ⟨hk_j_7, heq⟩ | ⟨hk_j_7, heq⟩
  · refine mg (k := 31) (v := .ref (a 18)) hx hb hts hin hown hK hP (by decide) f210 (by show some (mKv a (gK st)) = _; rw [hk_j_7]; rfl) dX11_carry_8 rfl ?_
    refine lv_aload_n hx hb dX11_carry_11 rfl (lv_at hl 0 rfl) ?_
    refine mg (k := 29) (v := .int (gF st 29)) hx hb hts hin hown hK hP (by decide) f213 rfl dX11_carry_12 rfl ?_
    refine lv_iload_n hx hb dX11_carry_15 rfl (lv_at hl 1 rfl) ?_
    obtain ⟨n_8, heq⟩ := inr_h heq
    refine mas (k := 26) (q := 18) (n := 47) hx hb hK hP hD hS rfl (maset_26 ..) n_8 dX11_carry_16 (fun H locs hP hD hS => ?_)
    obtain ⟨st_9, est_9⟩ : ∃ z, z = sA st 26 (gF st 29).toNatClampNeg v1 := ⟨_, rfl⟩
    rw [← est_9] at hP hD
    have heq := nm_h est_9 heq
    exact b17 st_9 H locs ls hP hD hS (lv_sub hl [0] rfl) heq
  · refine mg (k := 31) (v := .ref (a 19)) hx hb hts hin hown hK hP (by decide) f210 (by show some (mKv a (gK st)) = _; rw [hk_j_7]; rfl) dX11_carry_8 rfl ?_
    refine lv_aload_n hx hb dX11_carry_11 rfl (lv_at hl 0 rfl) ?_
    refine mg (k := 29) (v := .int (gF st 29)) hx hb hts hin hown hK hP (by decide) f213 rfl dX11_carry_12 rfl ?_
    refine lv_iload_n hx hb dX11_carry_15 rfl (lv_at hl 1 rfl) ?_
    obtain ⟨n_10, heq⟩ := inr_h heq
    refine mas (k := 27) (q := 19) (n := 47) hx hb hK hP hD hS rfl (maset_27 ..) n_10 dX11_carry_16 (fun H locs hP hD hS => ?_)
    obtain ⟨st_11, est_11⟩ : ∃ z, z = sA st 27 (gF st 29).toNatClampNeg v1 := ⟨_, rfl⟩
    rw [← est_11] at hP hD
    have heq := nm_h est_11 heq
    exact b17 st_11 H locs ls hP hD hS (lv_sub hl [0] rfl) heq
set_option maxRecDepth 20000 in
theorem ggX11_carryAll_X11_carry : GoodIn wsX11_carryAll wsX11_carry := goodIn_r _ [17, 2, 1, 3, 18, 19, 20, 21, 22, 23, 24, 25, 26, 27, 28, 29, 30, 31, 32, 33, 34, 35, 36, 37, 38, 39, 40, 41, 42, 43, 44, 45, 46, 47, 48, 49, 50, 51, 52, 53, 54] (by decide +kernel) (by decide +kernel)
set_option maxRecDepth 20000 in
theorem gX11_carryAll_X11_carry : GoodIn wsX11_carryAll (wsV RX11 216 RX11 yX11_carry wsX11_carry) := goodIn_app (goodIn_of _ (by decide +kernel)) ggX11_carryAll_X11_carry
theorem dX11_carryAll_0 : decode cX11_carryAll 0 = .ok (.aload_n 0, 1) := by decide +kernel
theorem dX11_carryAll_1 : decode cX11_carryAll 1 = .ok (.aload_n 1, 1) := by decide +kernel
theorem dX11_carryAll_2 : decode cX11_carryAll 2 = .ok (.putfield 210, 3) := by decide +kernel
theorem dX11_carryAll_5 : decode cX11_carryAll 5 = .ok (.aload_n 0, 1) := by decide +kernel
theorem dX11_carryAll_6 : decode cX11_carryAll 6 = .ok (.iload_n 2, 1) := by decide +kernel
theorem dX11_carryAll_7 : decode cX11_carryAll 7 = .ok (.putfield 207, 3) := by decide +kernel
theorem dX11_carryAll_10 : decode cX11_carryAll 10 = .ok (.aload_n 0, 1) := by decide +kernel
theorem dX11_carryAll_11 : decode cX11_carryAll 11 = .ok (.iconst 0, 1) := by decide +kernel
theorem dX11_carryAll_12 : decode cX11_carryAll 12 = .ok (.putfield 213, 3) := by decide +kernel
theorem dX11_carryAll_15 : decode cX11_carryAll 15 = .ok (.aload_n 0, 1) := by decide +kernel
theorem dX11_carryAll_16 : decode cX11_carryAll 16 = .ok (.aload_n 0, 1) := by decide +kernel
theorem dX11_carryAll_17 : decode cX11_carryAll 17 = .ok (.aload_n 0, 1) := by decide +kernel
theorem dX11_carryAll_18 : decode cX11_carryAll 18 = .ok (.getfield 89, 3) := by decide +kernel
theorem dX11_carryAll_21 : decode cX11_carryAll 21 = .ok (.ifCond .eq 7, 3) := by decide +kernel
theorem dX11_carryAll_24 : decode cX11_carryAll 24 = .ok (.iconst 1, 1) := by decide +kernel
theorem dX11_carryAll_25 : decode cX11_carryAll 25 = .ok (.goto 4, 3) := by decide +kernel
theorem dX11_carryAll_28 : decode cX11_carryAll 28 = .ok (.iconst 0, 1) := by decide +kernel
theorem dX11_carryAll_29 : decode cX11_carryAll 29 = .ok (.invokevirtual 216, 3) := by decide +kernel
theorem dX11_carryAll_32 : decode cX11_carryAll 32 = .ok (.iconst 1, 1) := by decide +kernel
theorem dX11_carryAll_33 : decode cX11_carryAll 33 = .ok (.if_icmp .ne 7, 3) := by decide +kernel
theorem dX11_carryAll_36 : decode cX11_carryAll 36 = .ok (.iconst 1, 1) := by decide +kernel
theorem dX11_carryAll_37 : decode cX11_carryAll 37 = .ok (.goto 4, 3) := by decide +kernel
theorem dX11_carryAll_40 : decode cX11_carryAll 40 = .ok (.iconst 0, 1) := by decide +kernel
theorem dX11_carryAll_41 : decode cX11_carryAll 41 = .ok (.putfield 89, 3) := by decide +kernel
theorem dX11_carryAll_44 : decode cX11_carryAll 44 = .ok (.aload_n 0, 1) := by decide +kernel
theorem dX11_carryAll_45 : decode cX11_carryAll 45 = .ok (.aload_n 0, 1) := by decide +kernel
theorem dX11_carryAll_46 : decode cX11_carryAll 46 = .ok (.aload_n 0, 1) := by decide +kernel
theorem dX11_carryAll_47 : decode cX11_carryAll 47 = .ok (.getfield 93, 3) := by decide +kernel
theorem dX11_carryAll_50 : decode cX11_carryAll 50 = .ok (.invokevirtual 216, 3) := by decide +kernel
theorem dX11_carryAll_53 : decode cX11_carryAll 53 = .ok (.putfield 93, 3) := by decide +kernel
theorem dX11_carryAll_56 : decode cX11_carryAll 56 = .ok (.aload_n 0, 1) := by decide +kernel
theorem dX11_carryAll_57 : decode cX11_carryAll 57 = .ok (.aload_n 0, 1) := by decide +kernel
theorem dX11_carryAll_58 : decode cX11_carryAll 58 = .ok (.aload_n 0, 1) := by decide +kernel
theorem dX11_carryAll_59 : decode cX11_carryAll 59 = .ok (.getfield 122, 3) := by decide +kernel
theorem dX11_carryAll_62 : decode cX11_carryAll 62 = .ok (.ifCond .eq 7, 3) := by decide +kernel
theorem dX11_carryAll_65 : decode cX11_carryAll 65 = .ok (.iconst 1, 1) := by decide +kernel
theorem dX11_carryAll_66 : decode cX11_carryAll 66 = .ok (.goto 4, 3) := by decide +kernel
theorem dX11_carryAll_69 : decode cX11_carryAll 69 = .ok (.iconst 0, 1) := by decide +kernel
theorem dX11_carryAll_70 : decode cX11_carryAll 70 = .ok (.invokevirtual 216, 3) := by decide +kernel
theorem dX11_carryAll_73 : decode cX11_carryAll 73 = .ok (.iconst 1, 1) := by decide +kernel
theorem dX11_carryAll_74 : decode cX11_carryAll 74 = .ok (.if_icmp .ne 7, 3) := by decide +kernel
theorem dX11_carryAll_77 : decode cX11_carryAll 77 = .ok (.iconst 1, 1) := by decide +kernel
theorem dX11_carryAll_78 : decode cX11_carryAll 78 = .ok (.goto 4, 3) := by decide +kernel
theorem dX11_carryAll_81 : decode cX11_carryAll 81 = .ok (.iconst 0, 1) := by decide +kernel
theorem dX11_carryAll_82 : decode cX11_carryAll 82 = .ok (.putfield 122, 3) := by decide +kernel
theorem dX11_carryAll_85 : decode cX11_carryAll 85 = .ok (.aload_n 0, 1) := by decide +kernel
theorem dX11_carryAll_86 : decode cX11_carryAll 86 = .ok (.aload_n 0, 1) := by decide +kernel
theorem dX11_carryAll_87 : decode cX11_carryAll 87 = .ok (.aload_n 0, 1) := by decide +kernel
theorem dX11_carryAll_88 : decode cX11_carryAll 88 = .ok (.getfield 170, 3) := by decide +kernel
theorem dX11_carryAll_91 : decode cX11_carryAll 91 = .ok (.invokevirtual 216, 3) := by decide +kernel
theorem dX11_carryAll_94 : decode cX11_carryAll 94 = .ok (.putfield 170, 3) := by decide +kernel
theorem dX11_carryAll_97 : decode cX11_carryAll 97 = .ok (.iconst 0, 1) := by decide +kernel
theorem dX11_carryAll_98 : decode cX11_carryAll 98 = .ok (.istore_n 3, 1) := by decide +kernel
theorem dX11_carryAll_99 : decode cX11_carryAll 99 = .ok (.iload_n 3, 1) := by decide +kernel
theorem dX11_carryAll_100 : decode cX11_carryAll 100 = .ok (.bipush 7, 2) := by decide +kernel
theorem dX11_carryAll_102 : decode cX11_carryAll 102 = .ok (.if_icmp .ge 25, 3) := by decide +kernel
theorem dX11_carryAll_105 : decode cX11_carryAll 105 = .ok (.aload_n 0, 1) := by decide +kernel
theorem dX11_carryAll_106 : decode cX11_carryAll 106 = .ok (.getfield 22, 3) := by decide +kernel
theorem dX11_carryAll_109 : decode cX11_carryAll 109 = .ok (.iload_n 3, 1) := by decide +kernel
theorem dX11_carryAll_110 : decode cX11_carryAll 110 = .ok (.aload_n 0, 1) := by decide +kernel
theorem dX11_carryAll_111 : decode cX11_carryAll 111 = .ok (.aload_n 0, 1) := by decide +kernel
theorem dX11_carryAll_112 : decode cX11_carryAll 112 = .ok (.getfield 22, 3) := by decide +kernel
theorem dX11_carryAll_115 : decode cX11_carryAll 115 = .ok (.iload_n 3, 1) := by decide +kernel
theorem dX11_carryAll_116 : decode cX11_carryAll 116 = .ok (.iaload, 1) := by decide +kernel
theorem dX11_carryAll_117 : decode cX11_carryAll 117 = .ok (.invokevirtual 216, 3) := by decide +kernel
theorem dX11_carryAll_120 : decode cX11_carryAll 120 = .ok (.iastore, 1) := by decide +kernel
theorem dX11_carryAll_121 : decode cX11_carryAll 121 = .ok (.iinc 3 1, 3) := by decide +kernel
theorem dX11_carryAll_124 : decode cX11_carryAll 124 = .ok (.goto (-25), 3) := by decide +kernel
theorem dX11_carryAll_127 : decode cX11_carryAll 127 = .ok (.iconst 0, 1) := by decide +kernel
theorem dX11_carryAll_128 : decode cX11_carryAll 128 = .ok (.istore_n 3, 1) := by decide +kernel
theorem dX11_carryAll_129 : decode cX11_carryAll 129 = .ok (.iload_n 3, 1) := by decide +kernel
theorem dX11_carryAll_130 : decode cX11_carryAll 130 = .ok (.bipush 12, 2) := by decide +kernel
theorem dX11_carryAll_132 : decode cX11_carryAll 132 = .ok (.if_icmp .ge 41, 3) := by decide +kernel
theorem dX11_carryAll_135 : decode cX11_carryAll 135 = .ok (.aload_n 0, 1) := by decide +kernel
theorem dX11_carryAll_136 : decode cX11_carryAll 136 = .ok (.getfield 16, 3) := by decide +kernel
theorem dX11_carryAll_139 : decode cX11_carryAll 139 = .ok (.iload_n 3, 1) := by decide +kernel
theorem dX11_carryAll_140 : decode cX11_carryAll 140 = .ok (.aload_n 0, 1) := by decide +kernel
theorem dX11_carryAll_141 : decode cX11_carryAll 141 = .ok (.aload_n 0, 1) := by decide +kernel
theorem dX11_carryAll_142 : decode cX11_carryAll 142 = .ok (.getfield 16, 3) := by decide +kernel
theorem dX11_carryAll_145 : decode cX11_carryAll 145 = .ok (.iload_n 3, 1) := by decide +kernel
theorem dX11_carryAll_146 : decode cX11_carryAll 146 = .ok (.iaload, 1) := by decide +kernel
theorem dX11_carryAll_147 : decode cX11_carryAll 147 = .ok (.invokevirtual 216, 3) := by decide +kernel
theorem dX11_carryAll_150 : decode cX11_carryAll 150 = .ok (.iastore, 1) := by decide +kernel
theorem dX11_carryAll_151 : decode cX11_carryAll 151 = .ok (.aload_n 0, 1) := by decide +kernel
theorem dX11_carryAll_152 : decode cX11_carryAll 152 = .ok (.getfield 19, 3) := by decide +kernel
theorem dX11_carryAll_155 : decode cX11_carryAll 155 = .ok (.iload_n 3, 1) := by decide +kernel
theorem dX11_carryAll_156 : decode cX11_carryAll 156 = .ok (.aload_n 0, 1) := by decide +kernel
theorem dX11_carryAll_157 : decode cX11_carryAll 157 = .ok (.aload_n 0, 1) := by decide +kernel
theorem dX11_carryAll_158 : decode cX11_carryAll 158 = .ok (.getfield 19, 3) := by decide +kernel
theorem dX11_carryAll_161 : decode cX11_carryAll 161 = .ok (.iload_n 3, 1) := by decide +kernel
theorem dX11_carryAll_162 : decode cX11_carryAll 162 = .ok (.iaload, 1) := by decide +kernel
theorem dX11_carryAll_163 : decode cX11_carryAll 163 = .ok (.invokevirtual 216, 3) := by decide +kernel
theorem dX11_carryAll_166 : decode cX11_carryAll 166 = .ok (.iastore, 1) := by decide +kernel
theorem dX11_carryAll_167 : decode cX11_carryAll 167 = .ok (.iinc 3 1, 3) := by decide +kernel
theorem dX11_carryAll_170 : decode cX11_carryAll 170 = .ok (.goto (-41), 3) := by decide +kernel
theorem dX11_carryAll_173 : decode cX11_carryAll 173 = .ok (.iconst 0, 1) := by decide +kernel
theorem dX11_carryAll_174 : decode cX11_carryAll 174 = .ok (.istore_n 3, 1) := by decide +kernel
theorem dX11_carryAll_175 : decode cX11_carryAll 175 = .ok (.iload_n 3, 1) := by decide +kernel
theorem dX11_carryAll_176 : decode cX11_carryAll 176 = .ok (.bipush 6, 2) := by decide +kernel
theorem dX11_carryAll_178 : decode cX11_carryAll 178 = .ok (.if_icmp .ge 41, 3) := by decide +kernel
theorem dX11_carryAll_181 : decode cX11_carryAll 181 = .ok (.aload_n 0, 1) := by decide +kernel
theorem dX11_carryAll_182 : decode cX11_carryAll 182 = .ok (.getfield 25, 3) := by decide +kernel
theorem dX11_carryAll_185 : decode cX11_carryAll 185 = .ok (.iload_n 3, 1) := by decide +kernel
theorem dX11_carryAll_186 : decode cX11_carryAll 186 = .ok (.aload_n 0, 1) := by decide +kernel
theorem dX11_carryAll_187 : decode cX11_carryAll 187 = .ok (.aload_n 0, 1) := by decide +kernel
theorem dX11_carryAll_188 : decode cX11_carryAll 188 = .ok (.getfield 25, 3) := by decide +kernel
theorem dX11_carryAll_191 : decode cX11_carryAll 191 = .ok (.iload_n 3, 1) := by decide +kernel
theorem dX11_carryAll_192 : decode cX11_carryAll 192 = .ok (.iaload, 1) := by decide +kernel
theorem dX11_carryAll_193 : decode cX11_carryAll 193 = .ok (.invokevirtual 216, 3) := by decide +kernel
theorem dX11_carryAll_196 : decode cX11_carryAll 196 = .ok (.iastore, 1) := by decide +kernel
theorem dX11_carryAll_197 : decode cX11_carryAll 197 = .ok (.aload_n 0, 1) := by decide +kernel
theorem dX11_carryAll_198 : decode cX11_carryAll 198 = .ok (.getfield 28, 3) := by decide +kernel
theorem dX11_carryAll_201 : decode cX11_carryAll 201 = .ok (.iload_n 3, 1) := by decide +kernel
theorem dX11_carryAll_202 : decode cX11_carryAll 202 = .ok (.aload_n 0, 1) := by decide +kernel
theorem dX11_carryAll_203 : decode cX11_carryAll 203 = .ok (.aload_n 0, 1) := by decide +kernel
theorem dX11_carryAll_204 : decode cX11_carryAll 204 = .ok (.getfield 28, 3) := by decide +kernel
theorem dX11_carryAll_207 : decode cX11_carryAll 207 = .ok (.iload_n 3, 1) := by decide +kernel
theorem dX11_carryAll_208 : decode cX11_carryAll 208 = .ok (.iaload, 1) := by decide +kernel
theorem dX11_carryAll_209 : decode cX11_carryAll 209 = .ok (.invokevirtual 216, 3) := by decide +kernel
theorem dX11_carryAll_212 : decode cX11_carryAll 212 = .ok (.iastore, 1) := by decide +kernel
theorem dX11_carryAll_213 : decode cX11_carryAll 213 = .ok (.iinc 3 1, 3) := by decide +kernel
theorem dX11_carryAll_216 : decode cX11_carryAll 216 = .ok (.goto (-41), 3) := by decide +kernel
theorem dX11_carryAll_219 : decode cX11_carryAll 219 = .ok (.return_, 1) := by decide +kernel
/-! carryAll -/
def X11_carryAll_p219 (st : MS) : Option (Unit × MS) :=
    some ((), st)
def X11_carryAll_p175 : Nat → MS → Int32 → Option (Unit × MS)
  | 0, _, _ => none
  | n + 1, st, v3 =>
    if (6 : Int32) ≤ v3 then
      (X11_carryAll_p219 st)
    else
    inr v3 6 <|
    bnd (X11_carry st (gA st 9 v3.toNatClampNeg)) fun y_4 st_3 =>
    inr v3 6 <|
    nm (sA st_3 9 v3.toNatClampNeg y_4) fun st_7 =>
    inr v3 6 <|
    bnd (X11_carry st_7 (gA st_7 10 v3.toNatClampNeg)) fun y_10 st_9 =>
    inr v3 6 <|
    nm (sA st_9 10 v3.toNatClampNeg y_10) fun st_13 =>
    nm (v3 + (1 : Int32)) fun x_14 =>
    X11_carryAll_p175  n st_13 x_14
theorem X11_carryAll_p175_s (n : Nat) (st : MS) (v3 : Int32) : X11_carryAll_p175  (n + 1) st v3 =
    (if (6 : Int32) ≤ v3 then
      (X11_carryAll_p219 st)
    else
    inr v3 6 <|
    bnd (X11_carry st (gA st 9 v3.toNatClampNeg)) fun y_4 st_3 =>
    inr v3 6 <|
    nm (sA st_3 9 v3.toNatClampNeg y_4) fun st_7 =>
    inr v3 6 <|
    bnd (X11_carry st_7 (gA st_7 10 v3.toNatClampNeg)) fun y_10 st_9 =>
    inr v3 6 <|
    nm (sA st_9 10 v3.toNatClampNeg y_10) fun st_13 =>
    nm (v3 + (1 : Int32)) fun x_14 =>
    X11_carryAll_p175  n st_13 x_14) := rfl
def X11_carryAll_p173 (st : MS) : Option (Unit × MS) :=
    X11_carryAll_p175 7 st (0 : Int32)
def X11_carryAll_p129 : Nat → MS → Int32 → Option (Unit × MS)
  | 0, _, _ => none
  | n + 1, st, v3 =>
    if (12 : Int32) ≤ v3 then
      (X11_carryAll_p173 st)
    else
    inr v3 12 <|
    bnd (X11_carry st (gA st 2 v3.toNatClampNeg)) fun y_18 st_17 =>
    inr v3 12 <|
    nm (sA st_17 2 v3.toNatClampNeg y_18) fun st_21 =>
    inr v3 12 <|
    bnd (X11_carry st_21 (gA st_21 3 v3.toNatClampNeg)) fun y_24 st_23 =>
    inr v3 12 <|
    nm (sA st_23 3 v3.toNatClampNeg y_24) fun st_27 =>
    nm (v3 + (1 : Int32)) fun x_28 =>
    X11_carryAll_p129  n st_27 x_28
theorem X11_carryAll_p129_s (n : Nat) (st : MS) (v3 : Int32) : X11_carryAll_p129  (n + 1) st v3 =
    (if (12 : Int32) ≤ v3 then
      (X11_carryAll_p173 st)
    else
    inr v3 12 <|
    bnd (X11_carry st (gA st 2 v3.toNatClampNeg)) fun y_18 st_17 =>
    inr v3 12 <|
    nm (sA st_17 2 v3.toNatClampNeg y_18) fun st_21 =>
    inr v3 12 <|
    bnd (X11_carry st_21 (gA st_21 3 v3.toNatClampNeg)) fun y_24 st_23 =>
    inr v3 12 <|
    nm (sA st_23 3 v3.toNatClampNeg y_24) fun st_27 =>
    nm (v3 + (1 : Int32)) fun x_28 =>
    X11_carryAll_p129  n st_27 x_28) := rfl
def X11_carryAll_p127 (st : MS) : Option (Unit × MS) :=
    X11_carryAll_p129 13 st (0 : Int32)
def X11_carryAll_p99 : Nat → MS → Int32 → Option (Unit × MS)
  | 0, _, _ => none
  | n + 1, st, v3 =>
    if (7 : Int32) ≤ v3 then
      (X11_carryAll_p127 st)
    else
    inr v3 7 <|
    bnd (X11_carry st (gA st 4 v3.toNatClampNeg)) fun y_32 st_31 =>
    inr v3 7 <|
    nm (sA st_31 4 v3.toNatClampNeg y_32) fun st_35 =>
    nm (v3 + (1 : Int32)) fun x_36 =>
    X11_carryAll_p99  n st_35 x_36
theorem X11_carryAll_p99_s (n : Nat) (st : MS) (v3 : Int32) : X11_carryAll_p99  (n + 1) st v3 =
    (if (7 : Int32) ≤ v3 then
      (X11_carryAll_p127 st)
    else
    inr v3 7 <|
    bnd (X11_carry st (gA st 4 v3.toNatClampNeg)) fun y_32 st_31 =>
    inr v3 7 <|
    nm (sA st_31 4 v3.toNatClampNeg y_32) fun st_35 =>
    nm (v3 + (1 : Int32)) fun x_36 =>
    X11_carryAll_p99  n st_35 x_36) := rfl
def X11_carryAll_p82 (st : MS) (t1 : Int32) : Option (Unit × MS) :=
    gz t1 <|
    nm (sF st 7 t1) fun st_37 =>
    bnd (X11_carry st_37 (gF st_37 8)) fun y_40 st_39 =>
    nm (sF st_39 8 y_40) fun st_42 =>
    X11_carryAll_p99 8 st_42 (0 : Int32)
def X11_carryAll_p70 (st : MS) (t2 : Int32) : Option (Unit × MS) :=
    bnd (X11_carry st t2) fun y_44 st_43 =>
    if y_44 = (1 : Int32) then
      (X11_carryAll_p82 st_43 (1 : Int32))
    else
    X11_carryAll_p82 st_43 (0 : Int32)
def X11_carryAll_p41 (st : MS) (t1 : Int32) : Option (Unit × MS) :=
    gz t1 <|
    nm (sF st 5 t1) fun st_47 =>
    bnd (X11_carry st_47 (gF st_47 6)) fun y_50 st_49 =>
    nm (sF st_49 6 y_50) fun st_52 =>
    if (gF st_52 7) = 0 then
      (X11_carryAll_p70 st_52 (0 : Int32))
    else
    X11_carryAll_p70 st_52 (1 : Int32)
def X11_carryAll_p29 (st : MS) (t2 : Int32) : Option (Unit × MS) :=
    bnd (X11_carry st t2) fun y_55 st_54 =>
    if y_55 = (1 : Int32) then
      (X11_carryAll_p41 st_54 (1 : Int32))
    else
    X11_carryAll_p41 st_54 (0 : Int32)
def X11_carryAll (st : MS) (v1 : Nat) (v2 : Int32) : Option (Unit × MS) :=
    nm (sK st (some v1)) fun st_58 =>
    gz v2 <|
    nm (sF st_58 30 v2) fun st_59 =>
    nm (sF st_59 29 (0 : Int32)) fun st_61 =>
    if (gF st_61 5) = 0 then
      (X11_carryAll_p29 st_61 (0 : Int32))
    else
    X11_carryAll_p29 st_61 (1 : Int32)
abbrev rmX11_carryAll : Room := { frames := 1, cells := 0, slots := 0, locals := 21 }
theorem hdX11_carryAll : yX11_carryAll.cls = RX11 ∧ yX11_carryAll.cls ≠ "java/lang/invoke/MethodHandle" ∧ yX11_carryAll.cls ≠ "java/lang/invoke/VarHandle" ∧ (parseMethodDescriptor yX11_carryAll.desc).map (fun d => d.parameters.length) = some 2 := by decide +kernel
set_option maxRecDepth 100000 in
set_option maxHeartbeats 4000000 in
theorem okX11_carryAll (l : Launch) (D : va_G) (a : Nat → Nat) (T : mT3) {st : MS} {v1 : Nat} {v2 : Int32} {st' : MS} (heq : X11_carryAll st v1 v2 = some ((), st')) : gCv l D (mT T) yX11_carryAll wsX11_carryAll rmX11_carryAll [.ref (a 0), .ref (a v1), .int v2] (mW a T st) (mW a T st') := by
  refine g_body_v (by decide) rfl (Nat.le_of_ble_eq_true rfl) (fun p e s m args below meth c A Q hx hb hml hown hts hK hA _ hret ls hP hD hS hl => ?_)
  have hl : lv_has ls 4 [(0, .ref (a 0)), (1, .ref (a v1)), (2, .int v2)] := hl
  have hin : ∀ w ∈ wsX110, w ∈ wsX11_carryAll := fun w h => List.mem_cons_of_mem _ (List.mem_append_right _ h)
  have f16 : (Cond.fieldLink RX11 16 RX11 (TX11 2).2.1 (TX11 2).2.2.1).before args s = true := hts (.fieldLink RX11 16 "LaidDownTheLaneModel" "kinds" "[I") (by decide +kernel)
  have f19 : (Cond.fieldLink RX11 19 RX11 (TX11 3).2.1 (TX11 3).2.2.1).before args s = true := hts (.fieldLink RX11 19 "LaidDownTheLaneModel" "figures" "[I") (by decide +kernel)
  have f22 : (Cond.fieldLink RX11 22 RX11 (TX11 4).2.1 (TX11 4).2.2.1).before args s = true := hts (.fieldLink RX11 22 "LaidDownTheLaneModel" "settings" "[I") (by decide +kernel)
  have f25 : (Cond.fieldLink RX11 25 RX11 (TX11 9).2.1 (TX11 9).2.2.1).before args s = true := hts (.fieldLink RX11 25 "LaidDownTheLaneModel" "sides" "[I") (by decide +kernel)
  have f28 : (Cond.fieldLink RX11 28 RX11 (TX11 10).2.1 (TX11 10).2.2.1).before args s = true := hts (.fieldLink RX11 28 "LaidDownTheLaneModel" "fars" "[I") (by decide +kernel)
  have f89 : (Cond.fieldLink RX11 89 RX11 (TX11 5).2.1 (TX11 5).2.2.1).before args s = true := hts (.fieldLink RX11 89 "LaidDownTheLaneModel" "isLit" "Z") (by decide +kernel)
  have f93 : (Cond.fieldLink RX11 93 RX11 (TX11 6).2.1 (TX11 6).2.2.1).before args s = true := hts (.fieldLink RX11 93 "LaidDownTheLaneModel" "minute" "I") (by decide +kernel)
  have f122 : (Cond.fieldLink RX11 122 RX11 (TX11 7).2.1 (TX11 7).2.2.1).before args s = true := hts (.fieldLink RX11 122 "LaidDownTheLaneModel" "isDown" "Z") (by decide +kernel)
  have f170 : (Cond.fieldLink RX11 170 RX11 (TX11 8).2.1 (TX11 8).2.2.1).before args s = true := hts (.fieldLink RX11 170 "LaidDownTheLaneModel" "houses" "I") (by decide +kernel)
  have f207 : (Cond.fieldLink RX11 207 RX11 (TX11 30).2.1 (TX11 30).2.2.1).before args s = true := hts (.fieldLink RX11 207 "LaidDownTheLaneModel" "isTaking" "Z") (by decide +kernel)
  have f210 : (Cond.fieldLink RX11 210 RX11 (TX11 31).2.1 (TX11 31).2.2.1).before args s = true := hts (.fieldLink RX11 210 "LaidDownTheLaneModel" "keptIn" "[I") (by decide +kernel)
  have f213 : (Cond.fieldLink RX11 213 RX11 (TX11 29).2.1 (TX11 29).2.2.1).before args s = true := hts (.fieldLink RX11 213 "LaidDownTheLaneModel" "place0" "I") (by decide +kernel)
  have b219 : ∀ (st : MS) (H : Heap) (locs : List Loc) (ls : Array Slot), va_P D vwCl (mW a T st) H → va_D A (mW a T st) → va_S A s.heap H locs → lv_has ls 4 [] → X11_carryAll_p219  st = some ((), st') → W p l e rmX11_carryAll s m args below meth c H locs 0 0 Q (F0 m 219 ls []) := by
    intro st H locs ls hP hD hS hl heq
    unfold X11_carryAll_p219 at heq
    obtain ⟨-, heq2⟩ := ret_h heq
    subst heq2
    exact hret 219 H locs ls hP hD hS dX11_carryAll_219
  have b175 : ∀ (n : Nat), ∀ (st : MS) (v3 : Int32) (H : Heap) (locs : List Loc) (ls : Array Slot), va_P D vwCl (mW a T st) H → va_D A (mW a T st) → va_S A s.heap H locs → lv_has ls 4 [(0, .ref (a 0)), (3, .int v3)] → X11_carryAll_p175  n st v3 = some ((), st') → W p l e rmX11_carryAll s m args below meth c H locs 0 0 Q (F0 m 175 ls []) := by
    intro n
    induction n with
    | zero => intro st v3 H locs ls hP hD hS hl heq; cases heq
    | succ n ih =>
      intro st v3 H locs ls hP hD hS hl heq
      rw [X11_carryAll_p175_s] at heq
      refine lv_iload_n hx hb dX11_carryAll_175 rfl (lv_at hl 1 rfl) ?_
      refine lv_bipush (v := (6 : Int32)) hx hb dX11_carryAll_176 (by decide) ?_
      refine lv_icmp_ge (tgt := 219) hx hb dX11_carryAll_178 (by decide) (fun c_1 => ?_) (fun c_1 => ?_)
      · have heq := it_t c_1 heq
        exact b219 st H locs ls hP hD hS (lv_sub hl [] rfl) heq
      have heq := it_f c_1 heq
      refine lv_aload_n hx hb dX11_carryAll_181 rfl (lv_at hl 0 rfl) ?_
      refine mg (k := 9) (v := .ref (a 6)) hx hb hts hin hown hK hP (by decide) f25 rfl dX11_carryAll_182 rfl ?_
      refine lv_iload_n hx hb dX11_carryAll_185 rfl (lv_at hl 1 rfl) ?_
      refine lv_aload_n hx hb dX11_carryAll_186 rfl (lv_at hl 0 rfl) ?_
      refine lv_aload_n hx hb dX11_carryAll_187 rfl (lv_at hl 0 rfl) ?_
      refine mg (k := 9) (v := .ref (a 6)) hx hb hts hin hown hK hP (by decide) f25 rfl dX11_carryAll_188 rfl ?_
      refine lv_iload_n hx hb dX11_carryAll_191 rfl (lv_at hl 1 rfl) ?_
      obtain ⟨n_2, heq⟩ := inr_h heq
      refine mal (k := 9) (q := 6) (n := 6) hx hb hK hP rfl n_2 dX11_carryAll_192 ?_
      obtain ⟨y_4, st_3, h_5, heq⟩ := bnd_h heq
      refine g_vi (own := RX11) (As := [.int (gA st 9 v3.toNatClampNeg)]) (rest := [.int v3, .ref (a 6)]) hx hb hml hown hts (okX11_carry l D a T h_5) (cwV 1 hts gX11_carryAll_X11_carry rfl rfl rfl hdX11_carry ⟨Nat.le_of_ble_eq_true rfl, Nat.le_of_ble_eq_true rfl⟩) hK hA hP hD hS (ci := 11) (q0 := 0) rfl rfl rfl hl.1 rfl (Nat.le_of_ble_eq_true rfl) dX11_carryAll_193 ⟨Nat.le_of_ble_eq_true rfl, Nat.le_of_ble_eq_true rfl⟩ (fun H locs hP hD hS => ?_)
      obtain ⟨n_6, heq⟩ := inr_h heq
      refine mas (k := 9) (q := 6) (n := 6) hx hb hK hP hD hS rfl (maset_9 ..) n_6 dX11_carryAll_196 (fun H locs hP hD hS => ?_)
      obtain ⟨st_7, est_7⟩ : ∃ z, z = sA st_3 9 v3.toNatClampNeg y_4 := ⟨_, rfl⟩
      rw [← est_7] at hP hD
      have heq := nm_h est_7 heq
      refine lv_aload_n hx hb dX11_carryAll_197 rfl (lv_at hl 0 rfl) ?_
      refine mg (k := 10) (v := .ref (a 7)) hx hb hts hin hown hK hP (by decide) f28 rfl dX11_carryAll_198 rfl ?_
      refine lv_iload_n hx hb dX11_carryAll_201 rfl (lv_at hl 1 rfl) ?_
      refine lv_aload_n hx hb dX11_carryAll_202 rfl (lv_at hl 0 rfl) ?_
      refine lv_aload_n hx hb dX11_carryAll_203 rfl (lv_at hl 0 rfl) ?_
      refine mg (k := 10) (v := .ref (a 7)) hx hb hts hin hown hK hP (by decide) f28 rfl dX11_carryAll_204 rfl ?_
      refine lv_iload_n hx hb dX11_carryAll_207 rfl (lv_at hl 1 rfl) ?_
      obtain ⟨n_8, heq⟩ := inr_h heq
      refine mal (k := 10) (q := 7) (n := 6) hx hb hK hP rfl n_8 dX11_carryAll_208 ?_
      obtain ⟨y_10, st_9, h_11, heq⟩ := bnd_h heq
      refine g_vi (own := RX11) (As := [.int (gA st_7 10 v3.toNatClampNeg)]) (rest := [.int v3, .ref (a 7)]) hx hb hml hown hts (okX11_carry l D a T h_11) (cwV 1 hts gX11_carryAll_X11_carry rfl rfl rfl hdX11_carry ⟨Nat.le_of_ble_eq_true rfl, Nat.le_of_ble_eq_true rfl⟩) hK hA hP hD hS (ci := 11) (q0 := 0) rfl rfl rfl hl.1 rfl (Nat.le_of_ble_eq_true rfl) dX11_carryAll_209 ⟨Nat.le_of_ble_eq_true rfl, Nat.le_of_ble_eq_true rfl⟩ (fun H locs hP hD hS => ?_)
      obtain ⟨n_12, heq⟩ := inr_h heq
      refine mas (k := 10) (q := 7) (n := 6) hx hb hK hP hD hS rfl (maset_10 ..) n_12 dX11_carryAll_212 (fun H locs hP hD hS => ?_)
      obtain ⟨st_13, est_13⟩ : ∃ z, z = sA st_9 10 v3.toNatClampNeg y_10 := ⟨_, rfl⟩
      rw [← est_13] at hP hD
      have heq := nm_h est_13 heq
      obtain ⟨x_14, ex_14⟩ : ∃ y : Int32, y = v3 + (1 : Int32) := ⟨_, rfl⟩
      have heq := nm_h ex_14 heq
      refine lv_iinc (v := x_14) (lv' := [(3, .int x_14), (0, .ref (a 0))]) hx hb dX11_carryAll_213 hl (k := 1) rfl (by rw [ex_14]; rfl) (by decide) rfl (fun ls hl => ?_)
      refine lv_goto (tgt := 175) hx hb dX11_carryAll_216 (by decide) ?_
      exact ih st_13 x_14 H locs ls hP hD hS (lv_sub hl [1, 0] rfl) heq
  have b173 : ∀ (st : MS) (H : Heap) (locs : List Loc) (ls : Array Slot), va_P D vwCl (mW a T st) H → va_D A (mW a T st) → va_S A s.heap H locs → lv_has ls 4 [(0, .ref (a 0))] → X11_carryAll_p173  st = some ((), st') → W p l e rmX11_carryAll s m args below meth c H locs 0 0 Q (F0 m 173 ls []) := by
    intro st H locs ls hP hD hS hl heq
    unfold X11_carryAll_p173 at heq
    refine lv_iconst (v := (0 : Int32)) hx hb dX11_carryAll_173 (by decide) ?_
    refine lv_istore_n (lv' := [(3, .int (0 : Int32)), (0, .ref (a 0))]) hx hb dX11_carryAll_174 rfl hl (by decide) rfl (fun ls hl => ?_)
    exact b175 7 st (0 : Int32) H locs ls hP hD hS (lv_sub hl [1, 0] rfl) heq
  have b129 : ∀ (n : Nat), ∀ (st : MS) (v3 : Int32) (H : Heap) (locs : List Loc) (ls : Array Slot), va_P D vwCl (mW a T st) H → va_D A (mW a T st) → va_S A s.heap H locs → lv_has ls 4 [(0, .ref (a 0)), (3, .int v3)] → X11_carryAll_p129  n st v3 = some ((), st') → W p l e rmX11_carryAll s m args below meth c H locs 0 0 Q (F0 m 129 ls []) := by
    intro n
    induction n with
    | zero => intro st v3 H locs ls hP hD hS hl heq; cases heq
    | succ n ih =>
      intro st v3 H locs ls hP hD hS hl heq
      rw [X11_carryAll_p129_s] at heq
      refine lv_iload_n hx hb dX11_carryAll_129 rfl (lv_at hl 1 rfl) ?_
      refine lv_bipush (v := (12 : Int32)) hx hb dX11_carryAll_130 (by decide) ?_
      refine lv_icmp_ge (tgt := 173) hx hb dX11_carryAll_132 (by decide) (fun c_15 => ?_) (fun c_15 => ?_)
      · have heq := it_t c_15 heq
        exact b173 st H locs ls hP hD hS (lv_sub hl [0] rfl) heq
      have heq := it_f c_15 heq
      refine lv_aload_n hx hb dX11_carryAll_135 rfl (lv_at hl 0 rfl) ?_
      refine mg (k := 2) (v := .ref (a 3)) hx hb hts hin hown hK hP (by decide) f16 rfl dX11_carryAll_136 rfl ?_
      refine lv_iload_n hx hb dX11_carryAll_139 rfl (lv_at hl 1 rfl) ?_
      refine lv_aload_n hx hb dX11_carryAll_140 rfl (lv_at hl 0 rfl) ?_
      refine lv_aload_n hx hb dX11_carryAll_141 rfl (lv_at hl 0 rfl) ?_
      refine mg (k := 2) (v := .ref (a 3)) hx hb hts hin hown hK hP (by decide) f16 rfl dX11_carryAll_142 rfl ?_
      refine lv_iload_n hx hb dX11_carryAll_145 rfl (lv_at hl 1 rfl) ?_
      obtain ⟨n_16, heq⟩ := inr_h heq
      refine mal (k := 2) (q := 3) (n := 12) hx hb hK hP rfl n_16 dX11_carryAll_146 ?_
      obtain ⟨y_18, st_17, h_19, heq⟩ := bnd_h heq
      refine g_vi (own := RX11) (As := [.int (gA st 2 v3.toNatClampNeg)]) (rest := [.int v3, .ref (a 3)]) hx hb hml hown hts (okX11_carry l D a T h_19) (cwV 1 hts gX11_carryAll_X11_carry rfl rfl rfl hdX11_carry ⟨Nat.le_of_ble_eq_true rfl, Nat.le_of_ble_eq_true rfl⟩) hK hA hP hD hS (ci := 11) (q0 := 0) rfl rfl rfl hl.1 rfl (Nat.le_of_ble_eq_true rfl) dX11_carryAll_147 ⟨Nat.le_of_ble_eq_true rfl, Nat.le_of_ble_eq_true rfl⟩ (fun H locs hP hD hS => ?_)
      obtain ⟨n_20, heq⟩ := inr_h heq
      refine mas (k := 2) (q := 3) (n := 12) hx hb hK hP hD hS rfl (maset_2 ..) n_20 dX11_carryAll_150 (fun H locs hP hD hS => ?_)
      obtain ⟨st_21, est_21⟩ : ∃ z, z = sA st_17 2 v3.toNatClampNeg y_18 := ⟨_, rfl⟩
      rw [← est_21] at hP hD
      have heq := nm_h est_21 heq
      refine lv_aload_n hx hb dX11_carryAll_151 rfl (lv_at hl 0 rfl) ?_
      refine mg (k := 3) (v := .ref (a 4)) hx hb hts hin hown hK hP (by decide) f19 rfl dX11_carryAll_152 rfl ?_
      refine lv_iload_n hx hb dX11_carryAll_155 rfl (lv_at hl 1 rfl) ?_
      refine lv_aload_n hx hb dX11_carryAll_156 rfl (lv_at hl 0 rfl) ?_
      refine lv_aload_n hx hb dX11_carryAll_157 rfl (lv_at hl 0 rfl) ?_
      refine mg (k := 3) (v := .ref (a 4)) hx hb hts hin hown hK hP (by decide) f19 rfl dX11_carryAll_158 rfl ?_
      refine lv_iload_n hx hb dX11_carryAll_161 rfl (lv_at hl 1 rfl) ?_
      obtain ⟨n_22, heq⟩ := inr_h heq
      refine mal (k := 3) (q := 4) (n := 12) hx hb hK hP rfl n_22 dX11_carryAll_162 ?_
      obtain ⟨y_24, st_23, h_25, heq⟩ := bnd_h heq
      refine g_vi (own := RX11) (As := [.int (gA st_21 3 v3.toNatClampNeg)]) (rest := [.int v3, .ref (a 4)]) hx hb hml hown hts (okX11_carry l D a T h_25) (cwV 1 hts gX11_carryAll_X11_carry rfl rfl rfl hdX11_carry ⟨Nat.le_of_ble_eq_true rfl, Nat.le_of_ble_eq_true rfl⟩) hK hA hP hD hS (ci := 11) (q0 := 0) rfl rfl rfl hl.1 rfl (Nat.le_of_ble_eq_true rfl) dX11_carryAll_163 ⟨Nat.le_of_ble_eq_true rfl, Nat.le_of_ble_eq_true rfl⟩ (fun H locs hP hD hS => ?_)
      obtain ⟨n_26, heq⟩ := inr_h heq
      refine mas (k := 3) (q := 4) (n := 12) hx hb hK hP hD hS rfl (maset_3 ..) n_26 dX11_carryAll_166 (fun H locs hP hD hS => ?_)
      obtain ⟨st_27, est_27⟩ : ∃ z, z = sA st_23 3 v3.toNatClampNeg y_24 := ⟨_, rfl⟩
      rw [← est_27] at hP hD
      have heq := nm_h est_27 heq
      obtain ⟨x_28, ex_28⟩ : ∃ y : Int32, y = v3 + (1 : Int32) := ⟨_, rfl⟩
      have heq := nm_h ex_28 heq
      refine lv_iinc (v := x_28) (lv' := [(3, .int x_28), (0, .ref (a 0))]) hx hb dX11_carryAll_167 hl (k := 1) rfl (by rw [ex_28]; rfl) (by decide) rfl (fun ls hl => ?_)
      refine lv_goto (tgt := 129) hx hb dX11_carryAll_170 (by decide) ?_
      exact ih st_27 x_28 H locs ls hP hD hS (lv_sub hl [1, 0] rfl) heq
  have b127 : ∀ (st : MS) (H : Heap) (locs : List Loc) (ls : Array Slot), va_P D vwCl (mW a T st) H → va_D A (mW a T st) → va_S A s.heap H locs → lv_has ls 4 [(0, .ref (a 0))] → X11_carryAll_p127  st = some ((), st') → W p l e rmX11_carryAll s m args below meth c H locs 0 0 Q (F0 m 127 ls []) := by
    intro st H locs ls hP hD hS hl heq
    unfold X11_carryAll_p127 at heq
    refine lv_iconst (v := (0 : Int32)) hx hb dX11_carryAll_127 (by decide) ?_
    refine lv_istore_n (lv' := [(3, .int (0 : Int32)), (0, .ref (a 0))]) hx hb dX11_carryAll_128 rfl hl (by decide) rfl (fun ls hl => ?_)
    exact b129 13 st (0 : Int32) H locs ls hP hD hS (lv_sub hl [1, 0] rfl) heq
  have b99 : ∀ (n : Nat), ∀ (st : MS) (v3 : Int32) (H : Heap) (locs : List Loc) (ls : Array Slot), va_P D vwCl (mW a T st) H → va_D A (mW a T st) → va_S A s.heap H locs → lv_has ls 4 [(0, .ref (a 0)), (3, .int v3)] → X11_carryAll_p99  n st v3 = some ((), st') → W p l e rmX11_carryAll s m args below meth c H locs 0 0 Q (F0 m 99 ls []) := by
    intro n
    induction n with
    | zero => intro st v3 H locs ls hP hD hS hl heq; cases heq
    | succ n ih =>
      intro st v3 H locs ls hP hD hS hl heq
      rw [X11_carryAll_p99_s] at heq
      refine lv_iload_n hx hb dX11_carryAll_99 rfl (lv_at hl 1 rfl) ?_
      refine lv_bipush (v := (7 : Int32)) hx hb dX11_carryAll_100 (by decide) ?_
      refine lv_icmp_ge (tgt := 127) hx hb dX11_carryAll_102 (by decide) (fun c_29 => ?_) (fun c_29 => ?_)
      · have heq := it_t c_29 heq
        exact b127 st H locs ls hP hD hS (lv_sub hl [0] rfl) heq
      have heq := it_f c_29 heq
      refine lv_aload_n hx hb dX11_carryAll_105 rfl (lv_at hl 0 rfl) ?_
      refine mg (k := 4) (v := .ref (a 5)) hx hb hts hin hown hK hP (by decide) f22 rfl dX11_carryAll_106 rfl ?_
      refine lv_iload_n hx hb dX11_carryAll_109 rfl (lv_at hl 1 rfl) ?_
      refine lv_aload_n hx hb dX11_carryAll_110 rfl (lv_at hl 0 rfl) ?_
      refine lv_aload_n hx hb dX11_carryAll_111 rfl (lv_at hl 0 rfl) ?_
      refine mg (k := 4) (v := .ref (a 5)) hx hb hts hin hown hK hP (by decide) f22 rfl dX11_carryAll_112 rfl ?_
      refine lv_iload_n hx hb dX11_carryAll_115 rfl (lv_at hl 1 rfl) ?_
      obtain ⟨n_30, heq⟩ := inr_h heq
      refine mal (k := 4) (q := 5) (n := 7) hx hb hK hP rfl n_30 dX11_carryAll_116 ?_
      obtain ⟨y_32, st_31, h_33, heq⟩ := bnd_h heq
      refine g_vi (own := RX11) (As := [.int (gA st 4 v3.toNatClampNeg)]) (rest := [.int v3, .ref (a 5)]) hx hb hml hown hts (okX11_carry l D a T h_33) (cwV 1 hts gX11_carryAll_X11_carry rfl rfl rfl hdX11_carry ⟨Nat.le_of_ble_eq_true rfl, Nat.le_of_ble_eq_true rfl⟩) hK hA hP hD hS (ci := 11) (q0 := 0) rfl rfl rfl hl.1 rfl (Nat.le_of_ble_eq_true rfl) dX11_carryAll_117 ⟨Nat.le_of_ble_eq_true rfl, Nat.le_of_ble_eq_true rfl⟩ (fun H locs hP hD hS => ?_)
      obtain ⟨n_34, heq⟩ := inr_h heq
      refine mas (k := 4) (q := 5) (n := 7) hx hb hK hP hD hS rfl (maset_4 ..) n_34 dX11_carryAll_120 (fun H locs hP hD hS => ?_)
      obtain ⟨st_35, est_35⟩ : ∃ z, z = sA st_31 4 v3.toNatClampNeg y_32 := ⟨_, rfl⟩
      rw [← est_35] at hP hD
      have heq := nm_h est_35 heq
      obtain ⟨x_36, ex_36⟩ : ∃ y : Int32, y = v3 + (1 : Int32) := ⟨_, rfl⟩
      have heq := nm_h ex_36 heq
      refine lv_iinc (v := x_36) (lv' := [(3, .int x_36), (0, .ref (a 0))]) hx hb dX11_carryAll_121 hl (k := 1) rfl (by rw [ex_36]; rfl) (by decide) rfl (fun ls hl => ?_)
      refine lv_goto (tgt := 99) hx hb dX11_carryAll_124 (by decide) ?_
      exact ih st_35 x_36 H locs ls hP hD hS (lv_sub hl [1, 0] rfl) heq
  have b82 : ∀ (st : MS) (t1 : Int32) (H : Heap) (locs : List Loc) (ls : Array Slot), va_P D vwCl (mW a T st) H → va_D A (mW a T st) → va_S A s.heap H locs → lv_has ls 4 [(0, .ref (a 0))] → X11_carryAll_p82  st t1 = some ((), st') → W p l e rmX11_carryAll s m args below meth c H locs 0 0 Q (F0 m 82 ls [.int t1, .ref (a 0)]) := by
    intro st t1 H locs ls hP hD hS hl heq
    unfold X11_carryAll_p82 at heq
    obtain ⟨n_38, n_38f, heq⟩ := gz_h heq
    refine mp (k := 7) hx hb hts hin hown hK hP hD hS (by decide) f122 dX11_carryAll_82 rfl rfl n_38 n_38f (mset_7 ..) (fun H locs hP hD hS => ?_)
    obtain ⟨st_37, est_37⟩ : ∃ z, z = sF st 7 t1 := ⟨_, rfl⟩
    rw [← est_37] at hP hD
    have heq := nm_h est_37 heq
    refine lv_aload_n hx hb dX11_carryAll_85 rfl (lv_at hl 0 rfl) ?_
    refine lv_aload_n hx hb dX11_carryAll_86 rfl (lv_at hl 0 rfl) ?_
    refine lv_aload_n hx hb dX11_carryAll_87 rfl (lv_at hl 0 rfl) ?_
    refine mg (k := 8) (v := .int (gF st_37 8)) hx hb hts hin hown hK hP (by decide) f170 rfl dX11_carryAll_88 rfl ?_
    obtain ⟨y_40, st_39, h_41, heq⟩ := bnd_h heq
    refine g_vi (own := RX11) (As := [.int (gF st_37 8)]) (rest := [.ref (a 0)]) hx hb hml hown hts (okX11_carry l D a T h_41) (cwV 1 hts gX11_carryAll_X11_carry rfl rfl rfl hdX11_carry ⟨Nat.le_of_ble_eq_true rfl, Nat.le_of_ble_eq_true rfl⟩) hK hA hP hD hS (ci := 11) (q0 := 0) rfl rfl rfl hl.1 rfl (Nat.le_of_ble_eq_true rfl) dX11_carryAll_91 ⟨Nat.le_of_ble_eq_true rfl, Nat.le_of_ble_eq_true rfl⟩ (fun H locs hP hD hS => ?_)
    refine mp (k := 8) hx hb hts hin hown hK hP hD hS (by decide) f170 dX11_carryAll_94 rfl rfl rfl rfl (mset_8 ..) (fun H locs hP hD hS => ?_)
    obtain ⟨st_42, est_42⟩ : ∃ z, z = sF st_39 8 y_40 := ⟨_, rfl⟩
    rw [← est_42] at hP hD
    have heq := nm_h est_42 heq
    refine lv_iconst (v := (0 : Int32)) hx hb dX11_carryAll_97 (by decide) ?_
    refine lv_istore_n (lv' := [(3, .int (0 : Int32)), (0, .ref (a 0))]) hx hb dX11_carryAll_98 rfl hl (by decide) rfl (fun ls hl => ?_)
    exact b99 8 st_42 (0 : Int32) H locs ls hP hD hS (lv_sub hl [1, 0] rfl) heq
  have b70 : ∀ (st : MS) (t2 : Int32) (H : Heap) (locs : List Loc) (ls : Array Slot), va_P D vwCl (mW a T st) H → va_D A (mW a T st) → va_S A s.heap H locs → lv_has ls 4 [(0, .ref (a 0))] → X11_carryAll_p70  st t2 = some ((), st') → W p l e rmX11_carryAll s m args below meth c H locs 0 0 Q (F0 m 70 ls [.int t2, .ref (a 0), .ref (a 0)]) := by
    intro st t2 H locs ls hP hD hS hl heq
    unfold X11_carryAll_p70 at heq
    obtain ⟨y_44, st_43, h_45, heq⟩ := bnd_h heq
    refine g_vi (own := RX11) (As := [.int t2]) (rest := [.ref (a 0)]) hx hb hml hown hts (okX11_carry l D a T h_45) (cwV 1 hts gX11_carryAll_X11_carry rfl rfl rfl hdX11_carry ⟨Nat.le_of_ble_eq_true rfl, Nat.le_of_ble_eq_true rfl⟩) hK hA hP hD hS (ci := 11) (q0 := 0) rfl rfl rfl hl.1 rfl (Nat.le_of_ble_eq_true rfl) dX11_carryAll_70 ⟨Nat.le_of_ble_eq_true rfl, Nat.le_of_ble_eq_true rfl⟩ (fun H locs hP hD hS => ?_)
    refine lv_iconst (v := (1 : Int32)) hx hb dX11_carryAll_73 (by decide) ?_
    refine lv_icmp_ne (tgt := 81) hx hb dX11_carryAll_74 (by decide) (fun c_46 => ?_) (fun c_46 => ?_)
    · have heq := it_f c_46 heq
      refine lv_iconst (v := (0 : Int32)) hx hb dX11_carryAll_81 (by decide) ?_
      exact b82 st_43 (0 : Int32) H locs ls hP hD hS (lv_sub hl [0] rfl) heq
    have heq := it_t c_46 heq
    refine lv_iconst (v := (1 : Int32)) hx hb dX11_carryAll_77 (by decide) ?_
    refine lv_goto (tgt := 82) hx hb dX11_carryAll_78 (by decide) ?_
    exact b82 st_43 (1 : Int32) H locs ls hP hD hS (lv_sub hl [0] rfl) heq
  have b41 : ∀ (st : MS) (t1 : Int32) (H : Heap) (locs : List Loc) (ls : Array Slot), va_P D vwCl (mW a T st) H → va_D A (mW a T st) → va_S A s.heap H locs → lv_has ls 4 [(0, .ref (a 0))] → X11_carryAll_p41  st t1 = some ((), st') → W p l e rmX11_carryAll s m args below meth c H locs 0 0 Q (F0 m 41 ls [.int t1, .ref (a 0)]) := by
    intro st t1 H locs ls hP hD hS hl heq
    unfold X11_carryAll_p41 at heq
    obtain ⟨n_48, n_48f, heq⟩ := gz_h heq
    refine mp (k := 5) hx hb hts hin hown hK hP hD hS (by decide) f89 dX11_carryAll_41 rfl rfl n_48 n_48f (mset_5 ..) (fun H locs hP hD hS => ?_)
    obtain ⟨st_47, est_47⟩ : ∃ z, z = sF st 5 t1 := ⟨_, rfl⟩
    rw [← est_47] at hP hD
    have heq := nm_h est_47 heq
    refine lv_aload_n hx hb dX11_carryAll_44 rfl (lv_at hl 0 rfl) ?_
    refine lv_aload_n hx hb dX11_carryAll_45 rfl (lv_at hl 0 rfl) ?_
    refine lv_aload_n hx hb dX11_carryAll_46 rfl (lv_at hl 0 rfl) ?_
    refine mg (k := 6) (v := .int (gF st_47 6)) hx hb hts hin hown hK hP (by decide) f93 rfl dX11_carryAll_47 rfl ?_
    obtain ⟨y_50, st_49, h_51, heq⟩ := bnd_h heq
    refine g_vi (own := RX11) (As := [.int (gF st_47 6)]) (rest := [.ref (a 0)]) hx hb hml hown hts (okX11_carry l D a T h_51) (cwV 1 hts gX11_carryAll_X11_carry rfl rfl rfl hdX11_carry ⟨Nat.le_of_ble_eq_true rfl, Nat.le_of_ble_eq_true rfl⟩) hK hA hP hD hS (ci := 11) (q0 := 0) rfl rfl rfl hl.1 rfl (Nat.le_of_ble_eq_true rfl) dX11_carryAll_50 ⟨Nat.le_of_ble_eq_true rfl, Nat.le_of_ble_eq_true rfl⟩ (fun H locs hP hD hS => ?_)
    refine mp (k := 6) hx hb hts hin hown hK hP hD hS (by decide) f93 dX11_carryAll_53 rfl rfl rfl rfl (mset_6 ..) (fun H locs hP hD hS => ?_)
    obtain ⟨st_52, est_52⟩ : ∃ z, z = sF st_49 6 y_50 := ⟨_, rfl⟩
    rw [← est_52] at hP hD
    have heq := nm_h est_52 heq
    refine lv_aload_n hx hb dX11_carryAll_56 rfl (lv_at hl 0 rfl) ?_
    refine lv_aload_n hx hb dX11_carryAll_57 rfl (lv_at hl 0 rfl) ?_
    refine lv_aload_n hx hb dX11_carryAll_58 rfl (lv_at hl 0 rfl) ?_
    refine mg (k := 7) (v := .int (gF st_52 7)) hx hb hts hin hown hK hP (by decide) f122 rfl dX11_carryAll_59 rfl ?_
    refine lv_if_eq (tgt := 69) hx hb dX11_carryAll_62 (by decide) (fun c_53 => ?_) (fun c_53 => ?_)
    · have heq := it_t c_53 heq
      refine lv_iconst (v := (0 : Int32)) hx hb dX11_carryAll_69 (by decide) ?_
      exact b70 st_52 (0 : Int32) H locs ls hP hD hS (lv_sub hl [0] rfl) heq
    have heq := it_f c_53 heq
    refine lv_iconst (v := (1 : Int32)) hx hb dX11_carryAll_65 (by decide) ?_
    refine lv_goto (tgt := 70) hx hb dX11_carryAll_66 (by decide) ?_
    exact b70 st_52 (1 : Int32) H locs ls hP hD hS (lv_sub hl [0] rfl) heq
  have b29 : ∀ (st : MS) (t2 : Int32) (H : Heap) (locs : List Loc) (ls : Array Slot), va_P D vwCl (mW a T st) H → va_D A (mW a T st) → va_S A s.heap H locs → lv_has ls 4 [(0, .ref (a 0))] → X11_carryAll_p29  st t2 = some ((), st') → W p l e rmX11_carryAll s m args below meth c H locs 0 0 Q (F0 m 29 ls [.int t2, .ref (a 0), .ref (a 0)]) := by
    intro st t2 H locs ls hP hD hS hl heq
    unfold X11_carryAll_p29 at heq
    obtain ⟨y_55, st_54, h_56, heq⟩ := bnd_h heq
    refine g_vi (own := RX11) (As := [.int t2]) (rest := [.ref (a 0)]) hx hb hml hown hts (okX11_carry l D a T h_56) (cwV 1 hts gX11_carryAll_X11_carry rfl rfl rfl hdX11_carry ⟨Nat.le_of_ble_eq_true rfl, Nat.le_of_ble_eq_true rfl⟩) hK hA hP hD hS (ci := 11) (q0 := 0) rfl rfl rfl hl.1 rfl (Nat.le_of_ble_eq_true rfl) dX11_carryAll_29 ⟨Nat.le_of_ble_eq_true rfl, Nat.le_of_ble_eq_true rfl⟩ (fun H locs hP hD hS => ?_)
    refine lv_iconst (v := (1 : Int32)) hx hb dX11_carryAll_32 (by decide) ?_
    refine lv_icmp_ne (tgt := 40) hx hb dX11_carryAll_33 (by decide) (fun c_57 => ?_) (fun c_57 => ?_)
    · have heq := it_f c_57 heq
      refine lv_iconst (v := (0 : Int32)) hx hb dX11_carryAll_40 (by decide) ?_
      exact b41 st_54 (0 : Int32) H locs ls hP hD hS (lv_sub hl [0] rfl) heq
    have heq := it_t c_57 heq
    refine lv_iconst (v := (1 : Int32)) hx hb dX11_carryAll_36 (by decide) ?_
    refine lv_goto (tgt := 41) hx hb dX11_carryAll_37 (by decide) ?_
    exact b41 st_54 (1 : Int32) H locs ls hP hD hS (lv_sub hl [0] rfl) heq
  obtain ⟨H, hH⟩ : ∃ H, H = s.heap := ⟨_, rfl⟩
  obtain ⟨locs, hlocs⟩ : ∃ z : List Loc, z = [] := ⟨_, rfl⟩
  have hS : va_S A s.heap H locs := by rw [hH, hlocs]; exact hS
  have hP : va_P D vwCl (mW a T st) H := by rw [hH]; exact hP
  suffices h9 : W p l e rmX11_carryAll s m args below meth c H locs 0 0 Q (F0 m 0 ls []) by rw [hH, hlocs] at h9; exact h9
  clear hH hlocs
  unfold X11_carryAll at heq
  refine lv_aload_n hx hb dX11_carryAll_0 rfl (lv_at hl 0 rfl) ?_
  refine lv_aload_n hx hb dX11_carryAll_1 rfl (lv_at hl 1 rfl) ?_
  refine mpK (k := 31) (o := v1) hx hb hts hin hown hK hP hD hS (by decide) f210 dX11_carryAll_2 rfl rfl rfl rfl (mset_31 ..) (fun H locs hP hD hS => ?_)
  obtain ⟨st_58, est_58⟩ : ∃ z, z = sK st (some v1) := ⟨_, rfl⟩
  rw [← est_58] at hP hD
  have heq := nm_h est_58 heq
  refine lv_aload_n hx hb dX11_carryAll_5 rfl (lv_at hl 0 rfl) ?_
  refine lv_iload_n hx hb dX11_carryAll_6 rfl (lv_at hl 2 rfl) ?_
  obtain ⟨n_60, n_60f, heq⟩ := gz_h heq
  refine mp (k := 30) hx hb hts hin hown hK hP hD hS (by decide) f207 dX11_carryAll_7 rfl rfl n_60 n_60f (mset_30 ..) (fun H locs hP hD hS => ?_)
  obtain ⟨st_59, est_59⟩ : ∃ z, z = sF st_58 30 v2 := ⟨_, rfl⟩
  rw [← est_59] at hP hD
  have heq := nm_h est_59 heq
  refine lv_aload_n hx hb dX11_carryAll_10 rfl (lv_at hl 0 rfl) ?_
  refine lv_iconst (v := (0 : Int32)) hx hb dX11_carryAll_11 (by decide) ?_
  refine mp (k := 29) hx hb hts hin hown hK hP hD hS (by decide) f213 dX11_carryAll_12 rfl rfl rfl rfl (mset_29 ..) (fun H locs hP hD hS => ?_)
  obtain ⟨st_61, est_61⟩ : ∃ z, z = sF st_59 29 (0 : Int32) := ⟨_, rfl⟩
  rw [← est_61] at hP hD
  have heq := nm_h est_61 heq
  refine lv_aload_n hx hb dX11_carryAll_15 rfl (lv_at hl 0 rfl) ?_
  refine lv_aload_n hx hb dX11_carryAll_16 rfl (lv_at hl 0 rfl) ?_
  refine lv_aload_n hx hb dX11_carryAll_17 rfl (lv_at hl 0 rfl) ?_
  refine mg (k := 5) (v := .int (gF st_61 5)) hx hb hts hin hown hK hP (by decide) f89 rfl dX11_carryAll_18 rfl ?_
  refine lv_if_eq (tgt := 28) hx hb dX11_carryAll_21 (by decide) (fun c_62 => ?_) (fun c_62 => ?_)
  · have heq := it_t c_62 heq
    refine lv_iconst (v := (0 : Int32)) hx hb dX11_carryAll_28 (by decide) ?_
    exact b29 st_61 (0 : Int32) H locs ls hP hD hS (lv_sub hl [0] rfl) heq
  have heq := it_f c_62 heq
  refine lv_iconst (v := (1 : Int32)) hx hb dX11_carryAll_24 (by decide) ?_
  refine lv_goto (tgt := 29) hx hb dX11_carryAll_25 (by decide) ?_
  exact b29 st_61 (1 : Int32) H locs ls hP hD hS (lv_sub hl [0] rfl) heq
set_option maxRecDepth 20000 in
theorem ggX11_wrongRow_X11_in : GoodIn wsX11_wrongRow wsX11_in := goodIn_r _ [6] (by decide +kernel) (by decide +kernel)
set_option maxRecDepth 20000 in
theorem gX11_wrongRow_X11_in : GoodIn wsX11_wrongRow (va_wsS RX11 81 yX11_in wsX11_in) := goodIn_app (goodIn_of _ (by decide +kernel)) ggX11_wrongRow_X11_in
theorem dX11_wrongRow_0 : decode cX11_wrongRow 0 = .ok (.iload_n 1, 1) := by decide +kernel
theorem dX11_wrongRow_1 : decode cX11_wrongRow 1 = .ok (.i2l, 1) := by decide +kernel
theorem dX11_wrongRow_2 : decode cX11_wrongRow 2 = .ok (.lconst 0, 1) := by decide +kernel
theorem dX11_wrongRow_3 : decode cX11_wrongRow 3 = .ok (.ldc2_w 228, 3) := by decide +kernel
theorem dX11_wrongRow_6 : decode cX11_wrongRow 6 = .ok (.invokestatic 81, 3) := by decide +kernel
theorem dX11_wrongRow_9 : decode cX11_wrongRow 9 = .ok (.ifCond .ne 7, 3) := by decide +kernel
theorem dX11_wrongRow_12 : decode cX11_wrongRow 12 = .ok (.iconst (-1), 1) := by decide +kernel
theorem dX11_wrongRow_13 : decode cX11_wrongRow 13 = .ok (.goto 33, 3) := by decide +kernel
theorem dX11_wrongRow_16 : decode cX11_wrongRow 16 = .ok (.aload_n 0, 1) := by decide +kernel
theorem dX11_wrongRow_17 : decode cX11_wrongRow 17 = .ok (.getfield 31, 3) := by decide +kernel
theorem dX11_wrongRow_20 : decode cX11_wrongRow 20 = .ok (.iload_n 1, 1) := by decide +kernel
theorem dX11_wrongRow_21 : decode cX11_wrongRow 21 = .ok (.iaload, 1) := by decide +kernel
theorem dX11_wrongRow_22 : decode cX11_wrongRow 22 = .ok (.ifCond .ne 8, 3) := by decide +kernel
theorem dX11_wrongRow_25 : decode cX11_wrongRow 25 = .ok (.bipush (-11), 2) := by decide +kernel
theorem dX11_wrongRow_27 : decode cX11_wrongRow 27 = .ok (.goto 19, 3) := by decide +kernel
theorem dX11_wrongRow_30 : decode cX11_wrongRow 30 = .ok (.aload_n 0, 1) := by decide +kernel
theorem dX11_wrongRow_31 : decode cX11_wrongRow 31 = .ok (.getfield 31, 3) := by decide +kernel
theorem dX11_wrongRow_34 : decode cX11_wrongRow 34 = .ok (.iload_n 1, 1) := by decide +kernel
theorem dX11_wrongRow_35 : decode cX11_wrongRow 35 = .ok (.iaload, 1) := by decide +kernel
theorem dX11_wrongRow_36 : decode cX11_wrongRow 36 = .ok (.iconst 2, 1) := by decide +kernel
theorem dX11_wrongRow_37 : decode cX11_wrongRow 37 = .ok (.if_icmp .eq 8, 3) := by decide +kernel
theorem dX11_wrongRow_40 : decode cX11_wrongRow 40 = .ok (.bipush (-12), 2) := by decide +kernel
theorem dX11_wrongRow_42 : decode cX11_wrongRow 42 = .ok (.goto 4, 3) := by decide +kernel
theorem dX11_wrongRow_45 : decode cX11_wrongRow 45 = .ok (.iconst 0, 1) := by decide +kernel
theorem dX11_wrongRow_46 : decode cX11_wrongRow 46 = .ok (.ireturn, 1) := by decide +kernel
/-! wrongRow -/
def X11_wrongRow_p46 (st : MS) (t0 : Int32) : Option (Int32 × MS) :=
    some (t0, st)
def X11_wrongRow (st : MS) (v1 : Int32) : Option (Int32 × MS) :=
    bd1 (X11_in (v1.toInt64) (0 : Int64) (7 : Int64)) fun y_1 =>
    if y_1 = 0 then
      (X11_wrongRow_p46 st (-1 : Int32))
    else
    inr v1 8 <|
    if (gA st 11 v1.toNatClampNeg) = 0 then
      (X11_wrongRow_p46 st (-11 : Int32))
    else
    inr v1 8 <|
    if (gA st 11 v1.toNatClampNeg) = (2 : Int32) then
      (X11_wrongRow_p46 st (0 : Int32))
    else
    X11_wrongRow_p46 st (-12 : Int32)
abbrev rmX11_wrongRow : Room := { frames := 1, cells := 0, slots := 0, locals := 25 }
theorem hdX11_wrongRow : yX11_wrongRow.cls = RX11 ∧ yX11_wrongRow.cls ≠ "java/lang/invoke/MethodHandle" ∧ yX11_wrongRow.cls ≠ "java/lang/invoke/VarHandle" ∧ (parseMethodDescriptor yX11_wrongRow.desc).map (fun d => d.parameters.length) = some 1 := by decide +kernel
set_option maxRecDepth 100000 in
set_option maxHeartbeats 4000000 in
theorem okX11_wrongRow (l : Launch) (D : va_G) (a : Nat → Nat) (T : mT3) {st : MS} {v1 : Int32} {r : Int32} {st' : MS} (heq : X11_wrongRow st v1 = some (r, st')) : gCi l D (mT T) yX11_wrongRow wsX11_wrongRow rmX11_wrongRow [.ref (a 0), .int v1] (mW a T st) r (mW a T st') := by
  refine g_body_i (by decide) rfl (Nat.le_of_ble_eq_true rfl) (fun p e s m args below meth c A Q hx hb hml hown hts hK hA hret ls hP hD hS hl => ?_)
  have hl : lv_has ls 2 [(0, .ref (a 0)), (1, .int v1)] := hl
  have hin : ∀ w ∈ wsX110, w ∈ wsX11_wrongRow := fun w h => List.mem_cons_of_mem _ (List.mem_append_right _ h)
  have f31 : (Cond.fieldLink RX11 31 RX11 (TX11 11).2.1 (TX11 11).2.2.1).before args s = true := hts (.fieldLink RX11 31 "LaidDownTheLaneModel" "holdsWhat" "[I") (by decide +kernel)
  have c228 := hts (.constantLong RX11 228 (7)) (by decide +kernel)
  have b46 : ∀ (st : MS) (t0 : Int32) (H : Heap) (locs : List Loc) (ls : Array Slot), va_P D vwCl (mW a T st) H → va_D A (mW a T st) → va_S A s.heap H locs → lv_has ls 2 [] → X11_wrongRow_p46  st t0 = some (r, st') → W p l e rmX11_wrongRow s m args below meth c H locs 0 0 Q (F0 m 46 ls [.int t0]) := by
    intro st t0 H locs ls hP hD hS hl heq
    unfold X11_wrongRow_p46 at heq
    obtain ⟨heq, heq2⟩ := ret_h heq
    subst heq
    subst heq2
    exact hret 46 H locs ls hP hD hS rfl dX11_wrongRow_46
  obtain ⟨H, hH⟩ : ∃ H, H = s.heap := ⟨_, rfl⟩
  obtain ⟨locs, hlocs⟩ : ∃ z : List Loc, z = [] := ⟨_, rfl⟩
  have hS : va_S A s.heap H locs := by rw [hH, hlocs]; exact hS
  have hP : va_P D vwCl (mW a T st) H := by rw [hH]; exact hP
  suffices h9 : W p l e rmX11_wrongRow s m args below meth c H locs 0 0 Q (F0 m 0 ls []) by rw [hH, hlocs] at h9; exact h9
  clear hH hlocs
  unfold X11_wrongRow at heq
  refine lv_iload_n hx hb dX11_wrongRow_0 rfl (lv_at hl 1 rfl) ?_
  refine lv_i2l hx hb dX11_wrongRow_1 rfl ?_
  refine lv_lconst (v := (0 : Int64)) hx hb dX11_wrongRow_2 (by decide) ?_
  refine lv_ldc2 (v := (7 : Int64)) hx hb hown c228 dX11_wrongRow_3 ?_
  obtain ⟨y_1, h_2, heq⟩ := bd1_h heq
  refine g_si (own := RX11) (D := D) (As := [.long (v1.toInt64), .long (0 : Int64), .long (7 : Int64)]) (rest := []) hx hb hml hown hts (okX11_in l D h_2) (cwS 3 hts gX11_wrongRow_X11_in rfl rfl rfl hdX11_in ⟨Nat.le_of_ble_eq_true rfl, Nat.le_of_ble_eq_true rfl⟩) hK hA hP hS rfl hl.1 rfl (Nat.le_of_ble_eq_true rfl) dX11_wrongRow_6 ⟨Nat.le_of_ble_eq_true rfl, Nat.le_of_ble_eq_true rfl⟩ (fun H locs hP hS => ?_)
  refine lv_if_ne (tgt := 16) hx hb dX11_wrongRow_9 (by decide) (fun c_3 => ?_) (fun c_3 => ?_)
  · have heq := it_f c_3 heq
    refine lv_aload_n hx hb dX11_wrongRow_16 rfl (lv_at hl 0 rfl) ?_
    refine mg (k := 11) (v := .ref (a 8)) hx hb hts hin hown hK hP (by decide) f31 rfl dX11_wrongRow_17 rfl ?_
    refine lv_iload_n hx hb dX11_wrongRow_20 rfl (lv_at hl 1 rfl) ?_
    obtain ⟨n_4, heq⟩ := inr_h heq
    refine mal (k := 11) (q := 8) (n := 8) hx hb hK hP rfl n_4 dX11_wrongRow_21 ?_
    refine lv_if_ne (tgt := 30) hx hb dX11_wrongRow_22 (by decide) (fun c_5 => ?_) (fun c_5 => ?_)
    · have heq := it_f c_5 heq
      refine lv_aload_n hx hb dX11_wrongRow_30 rfl (lv_at hl 0 rfl) ?_
      refine mg (k := 11) (v := .ref (a 8)) hx hb hts hin hown hK hP (by decide) f31 rfl dX11_wrongRow_31 rfl ?_
      refine lv_iload_n hx hb dX11_wrongRow_34 rfl (lv_at hl 1 rfl) ?_
      obtain ⟨n_6, heq⟩ := inr_h heq
      refine mal (k := 11) (q := 8) (n := 8) hx hb hK hP rfl n_6 dX11_wrongRow_35 ?_
      refine lv_iconst (v := (2 : Int32)) hx hb dX11_wrongRow_36 (by decide) ?_
      refine lv_icmp_eq (tgt := 45) hx hb dX11_wrongRow_37 (by decide) (fun c_7 => ?_) (fun c_7 => ?_)
      · have heq := it_t c_7 heq
        refine lv_iconst (v := (0 : Int32)) hx hb dX11_wrongRow_45 (by decide) ?_
        exact b46 st (0 : Int32) H locs ls hP hD hS (lv_sub hl [] rfl) heq
      have heq := it_f c_7 heq
      refine lv_bipush (v := (-12 : Int32)) hx hb dX11_wrongRow_40 (by decide) ?_
      refine lv_goto (tgt := 46) hx hb dX11_wrongRow_42 (by decide) ?_
      exact b46 st (-12 : Int32) H locs ls hP hD hS (lv_sub hl [] rfl) heq
    have heq := it_t c_5 heq
    refine lv_bipush (v := (-11 : Int32)) hx hb dX11_wrongRow_25 (by decide) ?_
    refine lv_goto (tgt := 46) hx hb dX11_wrongRow_27 (by decide) ?_
    exact b46 st (-11 : Int32) H locs ls hP hD hS (lv_sub hl [] rfl) heq
  have heq := it_t c_3 heq
  refine lv_iconst (v := (-1 : Int32)) hx hb dX11_wrongRow_12 (by decide) ?_
  refine lv_goto (tgt := 46) hx hb dX11_wrongRow_13 (by decide) ?_
  exact b46 st (-1 : Int32) H locs ls hP hD hS (lv_sub hl [] rfl) heq
