section LC
variable {p : Program} {l : Launch} {e : Env} {s : State} {m : MethodId} {args : Array Value} {below : List Frame} {meth : Method} {c : Code} {cells slots : Nat} {Q : State → Prop} {D : va_G} {dA : Nat → ClassId} {G : Gm} {v : Mv} {w : Mw} {b L : Nat} {xs : Nat → Int32} {a7 a8 : Nat} {adK adV : Nat → Nat} {x : Int32}
set_option maxHeartbeats 4000000 in
set_option maxRecDepth 100000 in
theorem lc_0 (X : LwE p s m meth c cells slots D dA G b L xs a7 a8 adK adV) (hOk : Ok G v w) (hRel : Rl G a7 a8 v) (hb : Bd x 0 ((L : Int) - 5)) (hL : L ≤ 2560) (K : ∀ v1 w1, Ok G v1 w1 → Rl G a7 a8 v1 → J p l e room_1 s m args below meth c cells slots Q D dA G (Al s) s.heap 4 v1 w1 (LV b a7 a8 x) 1328 []) : J p l e room_1 s m args below meth c cells slots Q D dA G (Al s) s.heap 4 v w (LV b a7 a8 x) 208 [] := by
  obtain ⟨E, hX, hbl, T7, T8, hSX, hSR⟩ := X
  have S7 := T7.1
  have S8 := T8.1
  have hbA : ¬ Al s b := Nat.not_le.mpr hbl
  refine J_aload_n E dL_law_208 2 rfl ?_
  refine J_callVI E cal_X7_people wd345 rfl (S_X7.h S7) [] [] (ct_X7_people l D dA G v w hOk a7 S7 ) rfl rfl (Nat.le_of_ble_eq_true rfl) ⟨rfl, rfl⟩ ⟨Nat.le_of_ble_eq_true rfl, Nat.le_of_ble_eq_true rfl⟩ dL_law_209 (fun r1 v1 w1 p1 => ?_)
  refine J_pop E dL_law_212 rfl ?_
  refine J_aload_n E dL_law_213 1 rfl ?_
  refine J_callVI E cal_X8_people wd988 rfl (S_X8.h S8) [] [] (ct_X8_people l D dA G v1 w1 p1.1 a8 S8 ) rfl rfl (Nat.le_of_ble_eq_true rfl) ⟨rfl, rfl⟩ ⟨Nat.le_of_ble_eq_true rfl, Nat.le_of_ble_eq_true rfl⟩ dL_law_214 (fun r2 v2 w2 p2 => ?_)
  refine J_pop E dL_law_217 rfl ?_
  refine J_goto E 1328 dL_law_218 (by decide) ?_
  exact K v2 w2 p2.1 (Rl.people S7 T7.2.choose_spec.2 S8 hOk hRel p1.2.2.2.1 p1.2.2.2.2 p2.2.2.2.1 p2.2.2.2.2 p2.1).2
set_option maxHeartbeats 4000000 in
set_option maxRecDepth 100000 in
theorem lc_1 (X : LwE p s m meth c cells slots D dA G b L xs a7 a8 adK adV) (hOk : Ok G v w) (hRel : Rl G a7 a8 v) (hb : Bd x 0 ((L : Int) - 5)) (hL : L ≤ 2560) (K : ∀ v1 w1, Ok G v1 w1 → Rl G a7 a8 v1 → J p l e room_1 s m args below meth c cells slots Q D dA G (Al s) s.heap 4 v1 w1 (LV b a7 a8 x) 1328 []) : J p l e room_1 s m args below meth c cells slots Q D dA G (Al s) s.heap 4 v w (LV b a7 a8 x) 221 [] := by
  obtain ⟨E, hX, hbl, T7, T8, hSX, hSR⟩ := X
  have S7 := T7.1
  have S8 := T8.1
  have hbA : ¬ Al s b := Nat.not_le.mpr hbl
  refine J_aload_n E dL_law_221 2 rfl ?_
  refine J_arg 1 1 E hX hbl hbA (by decide) (arg_in 1 hb hL (by unfold Bd; decide)) dL_law_222 dL_law_223 dL_law_224 dL_law_225 dL_law_226 ?_
  refine J_arg 2 2 E hX hbl hbA (by decide) (arg_in 2 hb hL (by unfold Bd; decide)) dL_law_227 dL_law_228 dL_law_229 dL_law_230 dL_law_231 ?_
  refine J_callVI E cal_X7_thing wd357 rfl (S_X7.h S7) [.int (xs (x + 1).toNatClampNeg), .int (xs (x + 2).toNatClampNeg)] [] (ct_X7_thing l D dA G v w hOk a7 S7 (xs (x + 1).toNatClampNeg) (xs (x + 2).toNatClampNeg)) rfl rfl (Nat.le_of_ble_eq_true rfl) ⟨rfl, rfl⟩ ⟨Nat.le_of_ble_eq_true rfl, Nat.le_of_ble_eq_true rfl⟩ dL_law_232 (fun r1 v1 w1 p1 => ?_)
  refine J_pop E dL_law_235 rfl ?_
  refine J_aload_n E dL_law_236 1 rfl ?_
  refine J_arg 1 1 E hX hbl hbA (by decide) (arg_in 1 hb hL (by unfold Bd; decide)) dL_law_237 dL_law_238 dL_law_239 dL_law_240 dL_law_241 ?_
  refine J_arg 2 2 E hX hbl hbA (by decide) (arg_in 2 hb hL (by unfold Bd; decide)) dL_law_242 dL_law_243 dL_law_244 dL_law_245 dL_law_246 ?_
  refine J_callVI E cal_X8_thing wd992 rfl (S_X8.h S8) [.int (xs (x + 1).toNatClampNeg), .int (xs (x + 2).toNatClampNeg)] [] (ct_X8_thing l D dA G v1 w1 p1.1 a8 S8 (xs (x + 1).toNatClampNeg) (xs (x + 2).toNatClampNeg)) rfl rfl (Nat.le_of_ble_eq_true rfl) ⟨rfl, rfl⟩ ⟨Nat.le_of_ble_eq_true rfl, Nat.le_of_ble_eq_true rfl⟩ dL_law_247 (fun r2 v2 w2 p2 => ?_)
  refine J_pop E dL_law_250 rfl ?_
  refine J_goto E 1328 dL_law_251 (by decide) ?_
  exact K v2 w2 p2.1 (Rl.thing S7 T7.2.choose_spec.2 S8 hOk hRel p1.2.2.2.1 p1.2.2.2.2 p2.2.2.2.1 p2.2.2.2.2 p2.1).2
set_option maxHeartbeats 4000000 in
set_option maxRecDepth 100000 in
theorem lc_2 (X : LwE p s m meth c cells slots D dA G b L xs a7 a8 adK adV) (hOk : Ok G v w) (hRel : Rl G a7 a8 v) (hb : Bd x 0 ((L : Int) - 5)) (hL : L ≤ 2560) (K : ∀ v1 w1, Ok G v1 w1 → Rl G a7 a8 v1 → J p l e room_1 s m args below meth c cells slots Q D dA G (Al s) s.heap 4 v1 w1 (LV b a7 a8 x) 1328 []) : J p l e room_1 s m args below meth c cells slots Q D dA G (Al s) s.heap 4 v w (LV b a7 a8 x) 254 [] := by
  obtain ⟨E, hX, hbl, T7, T8, hSX, hSR⟩ := X
  have S7 := T7.1
  have S8 := T8.1
  have hbA : ¬ Al s b := Nat.not_le.mpr hbl
  refine J_aload_n E dL_law_254 2 rfl ?_
  refine J_arg 1 1 E hX hbl hbA (by decide) (arg_in 1 hb hL (by unfold Bd; decide)) dL_law_255 dL_law_256 dL_law_257 dL_law_258 dL_law_259 ?_
  refine J_arg 2 2 E hX hbl hbA (by decide) (arg_in 2 hb hL (by unfold Bd; decide)) dL_law_260 dL_law_261 dL_law_262 dL_law_263 dL_law_264 ?_
  refine J_arg 3 3 E hX hbl hbA (by decide) (arg_in 3 hb hL (by unfold Bd; decide)) dL_law_265 dL_law_266 dL_law_267 dL_law_268 dL_law_269 ?_
  refine J_callVI E cal_X7_one wd376 rfl (S_X7.h S7) [.int (xs (x + 1).toNatClampNeg), .int (xs (x + 2).toNatClampNeg), .int (xs (x + 3).toNatClampNeg)] [] (ct_X7_one l D dA G v w hOk a7 S7 (xs (x + 1).toNatClampNeg) (xs (x + 2).toNatClampNeg) (xs (x + 3).toNatClampNeg)) rfl rfl (Nat.le_of_ble_eq_true rfl) ⟨rfl, rfl⟩ ⟨Nat.le_of_ble_eq_true rfl, Nat.le_of_ble_eq_true rfl⟩ dL_law_270 (fun r1 v1 w1 p1 => ?_)
  refine J_pop E dL_law_273 rfl ?_
  refine J_aload_n E dL_law_274 1 rfl ?_
  refine J_arg 1 1 E hX hbl hbA (by decide) (arg_in 1 hb hL (by unfold Bd; decide)) dL_law_275 dL_law_276 dL_law_277 dL_law_278 dL_law_279 ?_
  refine J_arg 2 2 E hX hbl hbA (by decide) (arg_in 2 hb hL (by unfold Bd; decide)) dL_law_280 dL_law_281 dL_law_282 dL_law_283 dL_law_284 ?_
  refine J_arg 3 3 E hX hbl hbA (by decide) (arg_in 3 hb hL (by unfold Bd; decide)) dL_law_285 dL_law_286 dL_law_287 dL_law_288 dL_law_289 ?_
  refine J_callVI E cal_X8_one wd1011 rfl (S_X8.h S8) [.int (xs (x + 1).toNatClampNeg), .int (xs (x + 2).toNatClampNeg), .int (xs (x + 3).toNatClampNeg)] [] (ct_X8_one l D dA G v1 w1 p1.1 a8 S8 (xs (x + 1).toNatClampNeg) (xs (x + 2).toNatClampNeg) (xs (x + 3).toNatClampNeg)) rfl rfl (Nat.le_of_ble_eq_true rfl) ⟨rfl, rfl⟩ ⟨Nat.le_of_ble_eq_true rfl, Nat.le_of_ble_eq_true rfl⟩ dL_law_290 (fun r2 v2 w2 p2 => ?_)
  refine J_pop E dL_law_293 rfl ?_
  refine J_goto E 1328 dL_law_294 (by decide) ?_
  exact K v2 w2 p2.1 (Rl.one S7 T7.2.choose_spec.2 S8 hOk hRel p1.2.2.2.1 p1.2.2.2.2 p2.2.2.2.1 p2.2.2.2.2 p2.1).2
set_option maxHeartbeats 4000000 in
set_option maxRecDepth 100000 in
theorem lc_3 (X : LwE p s m meth c cells slots D dA G b L xs a7 a8 adK adV) (hOk : Ok G v w) (hRel : Rl G a7 a8 v) (hb : Bd x 0 ((L : Int) - 5)) (hL : L ≤ 2560) (K : ∀ v1 w1, Ok G v1 w1 → Rl G a7 a8 v1 → J p l e room_1 s m args below meth c cells slots Q D dA G (Al s) s.heap 4 v1 w1 (LV b a7 a8 x) 1328 []) : J p l e room_1 s m args below meth c cells slots Q D dA G (Al s) s.heap 4 v w (LV b a7 a8 x) 297 [] := by
  obtain ⟨E, hX, hbl, T7, T8, hSX, hSR⟩ := X
  have S7 := T7.1
  have S8 := T8.1
  have hbA : ¬ Al s b := Nat.not_le.mpr hbl
  refine J_aload_n E dL_law_297 2 rfl ?_
  refine J_arg 1 1 E hX hbl hbA (by decide) (arg_in 1 hb hL (by unfold Bd; decide)) dL_law_298 dL_law_299 dL_law_300 dL_law_301 dL_law_302 ?_
  refine J_callVI E cal_X7_type wd384 rfl (S_X7.h S7) [.int (xs (x + 1).toNatClampNeg)] [] (ct_X7_type l D dA G v w hOk a7 S7 (xs (x + 1).toNatClampNeg)) rfl rfl (Nat.le_of_ble_eq_true rfl) ⟨rfl, rfl⟩ ⟨Nat.le_of_ble_eq_true rfl, Nat.le_of_ble_eq_true rfl⟩ dL_law_303 (fun r1 v1 w1 p1 => ?_)
  refine J_pop E dL_law_306 rfl ?_
  refine J_aload_n E dL_law_307 1 rfl ?_
  refine J_arg 1 1 E hX hbl hbA (by decide) (arg_in 1 hb hL (by unfold Bd; decide)) dL_law_308 dL_law_309 dL_law_310 dL_law_311 dL_law_312 ?_
  refine J_callVI E cal_X8_type wd1019 rfl (S_X8.h S8) [.int (xs (x + 1).toNatClampNeg)] [] (ct_X8_type l D dA G v1 w1 p1.1 a8 S8 (xs (x + 1).toNatClampNeg)) rfl rfl (Nat.le_of_ble_eq_true rfl) ⟨rfl, rfl⟩ ⟨Nat.le_of_ble_eq_true rfl, Nat.le_of_ble_eq_true rfl⟩ dL_law_313 (fun r2 v2 w2 p2 => ?_)
  refine J_pop E dL_law_316 rfl ?_
  refine J_goto E 1328 dL_law_317 (by decide) ?_
  exact K v2 w2 p2.1 (Rl.type S7 T7.2.choose_spec.2 S8 hOk hRel p1.2.2.2.1 p1.2.2.2.2 p2.2.2.2.1 p2.2.2.2.2 p2.1).2
set_option maxHeartbeats 4000000 in
set_option maxRecDepth 100000 in
theorem lc_4 (X : LwE p s m meth c cells slots D dA G b L xs a7 a8 adK adV) (hOk : Ok G v w) (hRel : Rl G a7 a8 v) (hb : Bd x 0 ((L : Int) - 5)) (hL : L ≤ 2560) (K : ∀ v1 w1, Ok G v1 w1 → Rl G a7 a8 v1 → J p l e room_1 s m args below meth c cells slots Q D dA G (Al s) s.heap 4 v1 w1 (LV b a7 a8 x) 1328 []) : J p l e room_1 s m args below meth c cells slots Q D dA G (Al s) s.heap 4 v w (LV b a7 a8 x) 320 [] := by
  obtain ⟨E, hX, hbl, T7, T8, hSX, hSR⟩ := X
  have S7 := T7.1
  have S8 := T8.1
  have hbA : ¬ Al s b := Nat.not_le.mpr hbl
  refine J_aload_n E dL_law_320 2 rfl ?_
  refine J_callVI E cal_X7_clear wd392 rfl (S_X7.h S7) [] [] (ct_X7_clear l D dA G v w hOk a7 S7 ) rfl rfl (Nat.le_of_ble_eq_true rfl) ⟨rfl, rfl⟩ ⟨Nat.le_of_ble_eq_true rfl, Nat.le_of_ble_eq_true rfl⟩ dL_law_321 (fun r1 v1 w1 p1 => ?_)
  refine J_pop E dL_law_324 rfl ?_
  refine J_aload_n E dL_law_325 1 rfl ?_
  refine J_callVI E cal_X8_clear wd1023 rfl (S_X8.h S8) [] [] (ct_X8_clear l D dA G v1 w1 p1.1 a8 S8 ) rfl rfl (Nat.le_of_ble_eq_true rfl) ⟨rfl, rfl⟩ ⟨Nat.le_of_ble_eq_true rfl, Nat.le_of_ble_eq_true rfl⟩ dL_law_326 (fun r2 v2 w2 p2 => ?_)
  refine J_pop E dL_law_329 rfl ?_
  refine J_goto E 1328 dL_law_330 (by decide) ?_
  exact K v2 w2 p2.1 (Rl.clear S7 T7.2.choose_spec.2 S8 hOk hRel p1.2.2.2.1 p1.2.2.2.2 p2.2.2.2.1 p2.2.2.2.2 p2.1).2
set_option maxHeartbeats 4000000 in
set_option maxRecDepth 100000 in
theorem lc_5 (X : LwE p s m meth c cells slots D dA G b L xs a7 a8 adK adV) (hOk : Ok G v w) (hRel : Rl G a7 a8 v) (hb : Bd x 0 ((L : Int) - 5)) (hL : L ≤ 2560) (K : ∀ v1 w1, Ok G v1 w1 → Rl G a7 a8 v1 → J p l e room_1 s m args below meth c cells slots Q D dA G (Al s) s.heap 4 v1 w1 (LV b a7 a8 x) 1328 []) : J p l e room_1 s m args below meth c cells slots Q D dA G (Al s) s.heap 4 v w (LV b a7 a8 x) 333 [] := by
  obtain ⟨E, hX, hbl, T7, T8, hSX, hSR⟩ := X
  have S7 := T7.1
  have S8 := T8.1
  have hbA : ¬ Al s b := Nat.not_le.mpr hbl
  refine J_aload_n E dL_law_333 2 rfl ?_
  refine J_csVI E hSX hSR cal_X7_read wd396 (rc_obj E.2.2.2.2.2.1 rfl (S_X7.h S7)) [] [] (ct_X7_read l D dA G v w hOk adK adV a7 S7 ) rfl rfl (Nat.le_of_ble_eq_true rfl) ⟨rfl, rfl⟩ ⟨Nat.le_of_ble_eq_true rfl, Nat.le_of_ble_eq_true rfl⟩ dL_law_334 (fun r1 v1 w1 p1 => ?_)
  refine J_pop E dL_law_337 rfl ?_
  refine J_aload_n E dL_law_338 1 rfl ?_
  refine J_callVI E cal_X8_read wd1027 rfl (S_X8.h S8) [] [] (ct_X8_read l D dA G v1 w1 p1.1 a8 S8 ) rfl rfl (Nat.le_of_ble_eq_true rfl) ⟨rfl, rfl⟩ ⟨Nat.le_of_ble_eq_true rfl, Nat.le_of_ble_eq_true rfl⟩ dL_law_339 (fun r2 v2 w2 p2 => ?_)
  refine J_pop E dL_law_342 rfl ?_
  refine J_goto E 1328 dL_law_343 (by decide) ?_
  exact K v2 w2 p2.1 (Rl.read S7 T7.2.choose_spec.2 S8 hOk hRel p1.2.2.2.1 p1.2.2.2.2 p2.2.2.2.1 p2.2.2.2.2 p2.1).2
set_option maxHeartbeats 4000000 in
set_option maxRecDepth 100000 in
theorem lc_6 (X : LwE p s m meth c cells slots D dA G b L xs a7 a8 adK adV) (hOk : Ok G v w) (hRel : Rl G a7 a8 v) (hb : Bd x 0 ((L : Int) - 5)) (hL : L ≤ 2560) (K : ∀ v1 w1, Ok G v1 w1 → Rl G a7 a8 v1 → J p l e room_1 s m args below meth c cells slots Q D dA G (Al s) s.heap 4 v1 w1 (LV b a7 a8 x) 1328 []) : J p l e room_1 s m args below meth c cells slots Q D dA G (Al s) s.heap 4 v w (LV b a7 a8 x) 346 [] := by
  obtain ⟨E, hX, hbl, T7, T8, hSX, hSR⟩ := X
  have S7 := T7.1
  have S8 := T8.1
  have hbA : ¬ Al s b := Nat.not_le.mpr hbl
  refine J_aload_n E dL_law_346 2 rfl ?_
  refine J_arg 1 1 E hX hbl hbA (by decide) (arg_in 1 hb hL (by unfold Bd; decide)) dL_law_347 dL_law_348 dL_law_349 dL_law_350 dL_law_351 ?_
  refine J_arg 2 2 E hX hbl hbA (by decide) (arg_in 2 hb hL (by unfold Bd; decide)) dL_law_352 dL_law_353 dL_law_354 dL_law_355 dL_law_356 ?_
  refine J_callVI E cal_X7_owns wd580 rfl (S_X7.h S7) [.int (xs (x + 1).toNatClampNeg), .int (xs (x + 2).toNatClampNeg)] [] (ct_X7_owns l D dA G v w hOk a7 S7 (xs (x + 1).toNatClampNeg) (xs (x + 2).toNatClampNeg)) rfl rfl (Nat.le_of_ble_eq_true rfl) ⟨rfl, rfl⟩ ⟨Nat.le_of_ble_eq_true rfl, Nat.le_of_ble_eq_true rfl⟩ dL_law_357 (fun r1 v1 w1 p1 => ?_)
  refine J_pop E dL_law_360 rfl ?_
  refine J_aload_n E dL_law_361 1 rfl ?_
  refine J_arg 1 1 E hX hbl hbA (by decide) (arg_in 1 hb hL (by unfold Bd; decide)) dL_law_362 dL_law_363 dL_law_364 dL_law_365 dL_law_366 ?_
  refine J_arg 2 2 E hX hbl hbA (by decide) (arg_in 2 hb hL (by unfold Bd; decide)) dL_law_367 dL_law_368 dL_law_369 dL_law_370 dL_law_371 ?_
  refine J_callVI E cal_X8_owns wd1116 rfl (S_X8.h S8) [.int (xs (x + 1).toNatClampNeg), .int (xs (x + 2).toNatClampNeg)] [] (ct_X8_owns l D dA G v1 w1 p1.1 a8 S8 (xs (x + 1).toNatClampNeg) (xs (x + 2).toNatClampNeg)) rfl rfl (Nat.le_of_ble_eq_true rfl) ⟨rfl, rfl⟩ ⟨Nat.le_of_ble_eq_true rfl, Nat.le_of_ble_eq_true rfl⟩ dL_law_372 (fun r2 v2 w2 p2 => ?_)
  refine J_pop E dL_law_375 rfl ?_
  refine J_goto E 1328 dL_law_376 (by decide) ?_
  exact K v2 w2 p2.1 ((hRel.kp S7 T7.2.choose_spec.2 S8 p1.2.1).kp S7 T7.2.choose_spec.2 S8 p2.2.1)
set_option maxHeartbeats 4000000 in
set_option maxRecDepth 100000 in
theorem lc_7 (X : LwE p s m meth c cells slots D dA G b L xs a7 a8 adK adV) (hOk : Ok G v w) (hRel : Rl G a7 a8 v) (hb : Bd x 0 ((L : Int) - 5)) (hL : L ≤ 2560) (K : ∀ v1 w1, Ok G v1 w1 → Rl G a7 a8 v1 → J p l e room_1 s m args below meth c cells slots Q D dA G (Al s) s.heap 4 v1 w1 (LV b a7 a8 x) 1328 []) : J p l e room_1 s m args below meth c cells slots Q D dA G (Al s) s.heap 4 v w (LV b a7 a8 x) 379 [] := by
  obtain ⟨E, hX, hbl, T7, T8, hSX, hSR⟩ := X
  have S7 := T7.1
  have S8 := T8.1
  have hbA : ¬ Al s b := Nat.not_le.mpr hbl
  refine J_aload_n E dL_law_379 2 rfl ?_
  refine J_arg 1 1 E hX hbl hbA (by decide) (arg_in 1 hb hL (by unfold Bd; decide)) dL_law_380 dL_law_381 dL_law_382 dL_law_383 dL_law_384 ?_
  refine J_callVI E cal_X7_leaves wd612 rfl (S_X7.h S7) [.int (xs (x + 1).toNatClampNeg)] [] (ct_X7_leaves l D dA G v w hOk a7 S7 (xs (x + 1).toNatClampNeg)) rfl rfl (Nat.le_of_ble_eq_true rfl) ⟨rfl, rfl⟩ ⟨Nat.le_of_ble_eq_true rfl, Nat.le_of_ble_eq_true rfl⟩ dL_law_385 (fun r1 v1 w1 p1 => ?_)
  refine J_pop E dL_law_388 rfl ?_
  refine J_aload_n E dL_law_389 1 rfl ?_
  refine J_arg 1 1 E hX hbl hbA (by decide) (arg_in 1 hb hL (by unfold Bd; decide)) dL_law_390 dL_law_391 dL_law_392 dL_law_393 dL_law_394 ?_
  refine J_callVI E cal_X8_leaves wd1140 rfl (S_X8.h S8) [.int (xs (x + 1).toNatClampNeg)] [] (ct_X8_leaves l D dA G v1 w1 p1.1 a8 S8 (xs (x + 1).toNatClampNeg)) rfl rfl (Nat.le_of_ble_eq_true rfl) ⟨rfl, rfl⟩ ⟨Nat.le_of_ble_eq_true rfl, Nat.le_of_ble_eq_true rfl⟩ dL_law_395 (fun r2 v2 w2 p2 => ?_)
  refine J_pop E dL_law_398 rfl ?_
  refine J_goto E 1328 dL_law_399 (by decide) ?_
  exact K v2 w2 p2.1 ((hRel.kp S7 T7.2.choose_spec.2 S8 p1.2.1).kp S7 T7.2.choose_spec.2 S8 p2.2.1)
set_option maxHeartbeats 4000000 in
set_option maxRecDepth 100000 in
theorem lc_8 (X : LwE p s m meth c cells slots D dA G b L xs a7 a8 adK adV) (hOk : Ok G v w) (hRel : Rl G a7 a8 v) (hb : Bd x 0 ((L : Int) - 5)) (hL : L ≤ 2560) (K : ∀ v1 w1, Ok G v1 w1 → Rl G a7 a8 v1 → J p l e room_1 s m args below meth c cells slots Q D dA G (Al s) s.heap 4 v1 w1 (LV b a7 a8 x) 1328 []) : J p l e room_1 s m args below meth c cells slots Q D dA G (Al s) s.heap 4 v w (LV b a7 a8 x) 402 [] := by
  obtain ⟨E, hX, hbl, T7, T8, hSX, hSR⟩ := X
  have S7 := T7.1
  have S8 := T8.1
  have hbA : ¬ Al s b := Nat.not_le.mpr hbl
  refine J_aload_n E dL_law_402 2 rfl ?_
  refine J_arg 1 1 E hX hbl hbA (by decide) (arg_in 1 hb hL (by unfold Bd; decide)) dL_law_403 dL_law_404 dL_law_405 dL_law_406 dL_law_407 ?_
  refine J_callVI E cal_X7_years wd616 rfl (S_X7.h S7) [.int (xs (x + 1).toNatClampNeg)] [] (ct_X7_years l D dA G v w hOk a7 S7 (xs (x + 1).toNatClampNeg)) rfl rfl (Nat.le_of_ble_eq_true rfl) ⟨rfl, rfl⟩ ⟨Nat.le_of_ble_eq_true rfl, Nat.le_of_ble_eq_true rfl⟩ dL_law_408 (fun r1 v1 w1 p1 => ?_)
  refine J_pop E dL_law_411 rfl ?_
  refine J_aload_n E dL_law_412 1 rfl ?_
  refine J_arg 1 1 E hX hbl hbA (by decide) (arg_in 1 hb hL (by unfold Bd; decide)) dL_law_413 dL_law_414 dL_law_415 dL_law_416 dL_law_417 ?_
  refine J_callVI E cal_X8_years wd1144 rfl (S_X8.h S8) [.int (xs (x + 1).toNatClampNeg)] [] (ct_X8_years l D dA G v1 w1 p1.1 a8 S8 (xs (x + 1).toNatClampNeg)) rfl rfl (Nat.le_of_ble_eq_true rfl) ⟨rfl, rfl⟩ ⟨Nat.le_of_ble_eq_true rfl, Nat.le_of_ble_eq_true rfl⟩ dL_law_418 (fun r2 v2 w2 p2 => ?_)
  refine J_pop E dL_law_421 rfl ?_
  refine J_goto E 1328 dL_law_422 (by decide) ?_
  exact K v2 w2 p2.1 ((hRel.kp S7 T7.2.choose_spec.2 S8 p1.2.1).kp S7 T7.2.choose_spec.2 S8 p2.2.1)
set_option maxHeartbeats 4000000 in
set_option maxRecDepth 100000 in
theorem lc_9 (X : LwE p s m meth c cells slots D dA G b L xs a7 a8 adK adV) (hOk : Ok G v w) (hRel : Rl G a7 a8 v) (hb : Bd x 0 ((L : Int) - 5)) (hL : L ≤ 2560) (K : ∀ v1 w1, Ok G v1 w1 → Rl G a7 a8 v1 → J p l e room_1 s m args below meth c cells slots Q D dA G (Al s) s.heap 4 v1 w1 (LV b a7 a8 x) 1328 []) : J p l e room_1 s m args below meth c cells slots Q D dA G (Al s) s.heap 4 v w (LV b a7 a8 x) 425 [] := by
  obtain ⟨E, hX, hbl, T7, T8, hSX, hSR⟩ := X
  have S7 := T7.1
  have S8 := T8.1
  have hbA : ¬ Al s b := Nat.not_le.mpr hbl
  refine J_aload_n E dL_law_425 2 rfl ?_
  refine J_callVI E cal_X7_undo wd631 rfl (S_X7.h S7) [] [] (ct_X7_undo l D dA G v w hOk a7 S7 ) rfl rfl (Nat.le_of_ble_eq_true rfl) ⟨rfl, rfl⟩ ⟨Nat.le_of_ble_eq_true rfl, Nat.le_of_ble_eq_true rfl⟩ dL_law_426 (fun r1 v1 w1 p1 => ?_)
  refine J_pop E dL_law_429 rfl ?_
  refine J_aload_n E dL_law_430 1 rfl ?_
  refine J_callVI E cal_X8_undo wd1155 rfl (S_X8.h S8) [] [] (ct_X8_undo l D dA G v1 w1 p1.1 a8 S8 ) rfl rfl (Nat.le_of_ble_eq_true rfl) ⟨rfl, rfl⟩ ⟨Nat.le_of_ble_eq_true rfl, Nat.le_of_ble_eq_true rfl⟩ dL_law_431 (fun r2 v2 w2 p2 => ?_)
  refine J_pop E dL_law_434 rfl ?_
  refine J_goto E 1328 dL_law_435 (by decide) ?_
  exact K v2 w2 p2.1 ((hRel.kp S7 T7.2.choose_spec.2 S8 p1.2.1).kp S7 T7.2.choose_spec.2 S8 p2.2.1)
set_option maxHeartbeats 4000000 in
set_option maxRecDepth 100000 in
theorem lc_10 (X : LwE p s m meth c cells slots D dA G b L xs a7 a8 adK adV) (hOk : Ok G v w) (hRel : Rl G a7 a8 v) (hb : Bd x 0 ((L : Int) - 5)) (hL : L ≤ 2560) (K : ∀ v1 w1, Ok G v1 w1 → Rl G a7 a8 v1 → J p l e room_1 s m args below meth c cells slots Q D dA G (Al s) s.heap 4 v1 w1 (LV b a7 a8 x) 1328 []) : J p l e room_1 s m args below meth c cells slots Q D dA G (Al s) s.heap 4 v w (LV b a7 a8 x) 438 [] := by
  obtain ⟨E, hX, hbl, T7, T8, hSX, hSR⟩ := X
  have S7 := T7.1
  have S8 := T8.1
  have hbA : ¬ Al s b := Nat.not_le.mpr hbl
  refine J_aload_n E dL_law_438 2 rfl ?_
  refine J_arg 1 1 E hX hbl hbA (by decide) (arg_in 1 hb hL (by unfold Bd; decide)) dL_law_439 dL_law_440 dL_law_441 dL_law_442 dL_law_443 ?_
  refine J_arg 2 2 E hX hbl hbA (by decide) (arg_in 2 hb hL (by unfold Bd; decide)) dL_law_444 dL_law_445 dL_law_446 dL_law_447 dL_law_448 ?_
  refine J_callVI E cal_X7_of wd639 rfl (S_X7.h S7) [.int (xs (x + 1).toNatClampNeg), .int (xs (x + 2).toNatClampNeg)] [] (ct_X7_of l D dA G v w hOk a7 S7 (xs (x + 1).toNatClampNeg) (xs (x + 2).toNatClampNeg)) rfl rfl (Nat.le_of_ble_eq_true rfl) ⟨rfl, rfl⟩ ⟨Nat.le_of_ble_eq_true rfl, Nat.le_of_ble_eq_true rfl⟩ dL_law_449 (fun r1 v1 w1 p1 => ?_)
  refine J_pop E dL_law_452 rfl ?_
  refine J_aload_n E dL_law_453 1 rfl ?_
  refine J_arg 1 1 E hX hbl hbA (by decide) (arg_in 1 hb hL (by unfold Bd; decide)) dL_law_454 dL_law_455 dL_law_456 dL_law_457 dL_law_458 ?_
  refine J_arg 2 2 E hX hbl hbA (by decide) (arg_in 2 hb hL (by unfold Bd; decide)) dL_law_459 dL_law_460 dL_law_461 dL_law_462 dL_law_463 ?_
  refine J_callVI E cal_X8_of wd1159 rfl (S_X8.h S8) [.int (xs (x + 1).toNatClampNeg), .int (xs (x + 2).toNatClampNeg)] [] (ct_X8_of l D dA G v1 w1 p1.1 a8 S8 (xs (x + 1).toNatClampNeg) (xs (x + 2).toNatClampNeg)) rfl rfl (Nat.le_of_ble_eq_true rfl) ⟨rfl, rfl⟩ ⟨Nat.le_of_ble_eq_true rfl, Nat.le_of_ble_eq_true rfl⟩ dL_law_464 (fun r2 v2 w2 p2 => ?_)
  refine J_pop E dL_law_467 rfl ?_
  refine J_goto E 1328 dL_law_468 (by decide) ?_
  exact K v2 w2 p2.1 ((hRel.kp S7 T7.2.choose_spec.2 S8 p1.2.1).kp S7 T7.2.choose_spec.2 S8 p2.2.1)
set_option maxHeartbeats 4000000 in
set_option maxRecDepth 100000 in
theorem lc_11 (X : LwE p s m meth c cells slots D dA G b L xs a7 a8 adK adV) (hOk : Ok G v w) (hRel : Rl G a7 a8 v) (hb : Bd x 0 ((L : Int) - 5)) (hL : L ≤ 2560) (K : ∀ v1 w1, Ok G v1 w1 → Rl G a7 a8 v1 → J p l e room_1 s m args below meth c cells slots Q D dA G (Al s) s.heap 4 v1 w1 (LV b a7 a8 x) 1328 []) : J p l e room_1 s m args below meth c cells slots Q D dA G (Al s) s.heap 4 v w (LV b a7 a8 x) 471 [] := by
  obtain ⟨E, hX, hbl, T7, T8, hSX, hSR⟩ := X
  have S7 := T7.1
  have S8 := T8.1
  have hbA : ¬ Al s b := Nat.not_le.mpr hbl
  refine J_aload_n E dL_law_471 2 rfl ?_
  refine J_arg 1 1 E hX hbl hbA (by decide) (arg_in 1 hb hL (by unfold Bd; decide)) dL_law_472 dL_law_473 dL_law_474 dL_law_475 dL_law_476 ?_
  refine J_arg 2 2 E hX hbl hbA (by decide) (arg_in 2 hb hL (by unfold Bd; decide)) dL_law_477 dL_law_478 dL_law_479 dL_law_480 dL_law_481 ?_
  refine J_callVI E cal_X7_about wd647 rfl (S_X7.h S7) [.int (xs (x + 1).toNatClampNeg), .int (xs (x + 2).toNatClampNeg)] [] (ct_X7_about l D dA G v w hOk a7 S7 (xs (x + 1).toNatClampNeg) (xs (x + 2).toNatClampNeg)) rfl rfl (Nat.le_of_ble_eq_true rfl) ⟨rfl, rfl⟩ ⟨Nat.le_of_ble_eq_true rfl, Nat.le_of_ble_eq_true rfl⟩ dL_law_482 (fun r1 v1 w1 p1 => ?_)
  refine J_pop E dL_law_485 rfl ?_
  refine J_aload_n E dL_law_486 1 rfl ?_
  refine J_arg 1 1 E hX hbl hbA (by decide) (arg_in 1 hb hL (by unfold Bd; decide)) dL_law_487 dL_law_488 dL_law_489 dL_law_490 dL_law_491 ?_
  refine J_arg 2 2 E hX hbl hbA (by decide) (arg_in 2 hb hL (by unfold Bd; decide)) dL_law_492 dL_law_493 dL_law_494 dL_law_495 dL_law_496 ?_
  refine J_callVI E cal_X8_about wd1167 rfl (S_X8.h S8) [.int (xs (x + 1).toNatClampNeg), .int (xs (x + 2).toNatClampNeg)] [] (ct_X8_about l D dA G v1 w1 p1.1 a8 S8 (xs (x + 1).toNatClampNeg) (xs (x + 2).toNatClampNeg)) rfl rfl (Nat.le_of_ble_eq_true rfl) ⟨rfl, rfl⟩ ⟨Nat.le_of_ble_eq_true rfl, Nat.le_of_ble_eq_true rfl⟩ dL_law_497 (fun r2 v2 w2 p2 => ?_)
  refine J_pop E dL_law_500 rfl ?_
  refine J_goto E 1328 dL_law_501 (by decide) ?_
  exact K v2 w2 p2.1 ((hRel.kp S7 T7.2.choose_spec.2 S8 p1.2.1).kp S7 T7.2.choose_spec.2 S8 p2.2.1)
set_option maxHeartbeats 4000000 in
set_option maxRecDepth 100000 in
theorem lc_12 (X : LwE p s m meth c cells slots D dA G b L xs a7 a8 adK adV) (hOk : Ok G v w) (hRel : Rl G a7 a8 v) (hb : Bd x 0 ((L : Int) - 5)) (hL : L ≤ 2560) (K : ∀ v1 w1, Ok G v1 w1 → Rl G a7 a8 v1 → J p l e room_1 s m args below meth c cells slots Q D dA G (Al s) s.heap 4 v1 w1 (LV b a7 a8 x) 1328 []) : J p l e room_1 s m args below meth c cells slots Q D dA G (Al s) s.heap 4 v w (LV b a7 a8 x) 504 [] := by
  obtain ⟨E, hX, hbl, T7, T8, hSX, hSR⟩ := X
  have S7 := T7.1
  have S8 := T8.1
  have hbA : ¬ Al s b := Nat.not_le.mpr hbl
  refine J_aload_n E dL_law_504 2 rfl ?_
  refine J_arg 1 1 E hX hbl hbA (by decide) (arg_in 1 hb hL (by unfold Bd; decide)) dL_law_505 dL_law_506 dL_law_507 dL_law_508 dL_law_509 ?_
  refine J_arg 2 2 E hX hbl hbA (by decide) (arg_in 2 hb hL (by unfold Bd; decide)) dL_law_510 dL_law_511 dL_law_512 dL_law_513 dL_law_514 ?_
  refine J_callVI E cal_X7_lifts wd651 rfl (S_X7.h S7) [.int (xs (x + 1).toNatClampNeg), .int (xs (x + 2).toNatClampNeg)] [] (ct_X7_lifts l D dA G v w hOk a7 S7 (xs (x + 1).toNatClampNeg) (xs (x + 2).toNatClampNeg)) rfl rfl (Nat.le_of_ble_eq_true rfl) ⟨rfl, rfl⟩ ⟨Nat.le_of_ble_eq_true rfl, Nat.le_of_ble_eq_true rfl⟩ dL_law_515 (fun r1 v1 w1 p1 => ?_)
  refine J_pop E dL_law_518 rfl ?_
  refine J_aload_n E dL_law_519 1 rfl ?_
  refine J_arg 1 1 E hX hbl hbA (by decide) (arg_in 1 hb hL (by unfold Bd; decide)) dL_law_520 dL_law_521 dL_law_522 dL_law_523 dL_law_524 ?_
  refine J_arg 2 2 E hX hbl hbA (by decide) (arg_in 2 hb hL (by unfold Bd; decide)) dL_law_525 dL_law_526 dL_law_527 dL_law_528 dL_law_529 ?_
  refine J_callVI E cal_X8_lifts wd1171 rfl (S_X8.h S8) [.int (xs (x + 1).toNatClampNeg), .int (xs (x + 2).toNatClampNeg)] [] (ct_X8_lifts l D dA G v1 w1 p1.1 a8 S8 (xs (x + 1).toNatClampNeg) (xs (x + 2).toNatClampNeg)) rfl rfl (Nat.le_of_ble_eq_true rfl) ⟨rfl, rfl⟩ ⟨Nat.le_of_ble_eq_true rfl, Nat.le_of_ble_eq_true rfl⟩ dL_law_530 (fun r2 v2 w2 p2 => ?_)
  refine J_pop E dL_law_533 rfl ?_
  refine J_goto E 1328 dL_law_534 (by decide) ?_
  exact K v2 w2 p2.1 ((hRel.kp S7 T7.2.choose_spec.2 S8 p1.2.1).kp S7 T7.2.choose_spec.2 S8 p2.2.1)
set_option maxHeartbeats 4000000 in
set_option maxRecDepth 100000 in
theorem lc_13 (X : LwE p s m meth c cells slots D dA G b L xs a7 a8 adK adV) (hOk : Ok G v w) (hRel : Rl G a7 a8 v) (hb : Bd x 0 ((L : Int) - 5)) (hL : L ≤ 2560) (K : ∀ v1 w1, Ok G v1 w1 → Rl G a7 a8 v1 → J p l e room_1 s m args below meth c cells slots Q D dA G (Al s) s.heap 4 v1 w1 (LV b a7 a8 x) 1328 []) : J p l e room_1 s m args below meth c cells slots Q D dA G (Al s) s.heap 4 v w (LV b a7 a8 x) 537 [] := by
  obtain ⟨E, hX, hbl, T7, T8, hSX, hSR⟩ := X
  have S7 := T7.1
  have S8 := T8.1
  have hbA : ¬ Al s b := Nat.not_le.mpr hbl
  refine J_aload_n E dL_law_537 2 rfl ?_
  refine J_arg 1 1 E hX hbl hbA (by decide) (arg_in 1 hb hL (by unfold Bd; decide)) dL_law_538 dL_law_539 dL_law_540 dL_law_541 dL_law_542 ?_
  refine J_arg 2 2 E hX hbl hbA (by decide) (arg_in 2 hb hL (by unfold Bd; decide)) dL_law_543 dL_law_544 dL_law_545 dL_law_546 dL_law_547 ?_
  refine J_callVI E cal_X7_weighs wd656 rfl (S_X7.h S7) [.int (xs (x + 1).toNatClampNeg), .int (xs (x + 2).toNatClampNeg)] [] (ct_X7_weighs l D dA G v w hOk a7 S7 (xs (x + 1).toNatClampNeg) (xs (x + 2).toNatClampNeg)) rfl rfl (Nat.le_of_ble_eq_true rfl) ⟨rfl, rfl⟩ ⟨Nat.le_of_ble_eq_true rfl, Nat.le_of_ble_eq_true rfl⟩ dL_law_548 (fun r1 v1 w1 p1 => ?_)
  refine J_pop E dL_law_551 rfl ?_
  refine J_aload_n E dL_law_552 1 rfl ?_
  refine J_arg 1 1 E hX hbl hbA (by decide) (arg_in 1 hb hL (by unfold Bd; decide)) dL_law_553 dL_law_554 dL_law_555 dL_law_556 dL_law_557 ?_
  refine J_arg 2 2 E hX hbl hbA (by decide) (arg_in 2 hb hL (by unfold Bd; decide)) dL_law_558 dL_law_559 dL_law_560 dL_law_561 dL_law_562 ?_
  refine J_callVI E cal_X8_weighs wd1183 rfl (S_X8.h S8) [.int (xs (x + 1).toNatClampNeg), .int (xs (x + 2).toNatClampNeg)] [] (ct_X8_weighs l D dA G v1 w1 p1.1 a8 S8 (xs (x + 1).toNatClampNeg) (xs (x + 2).toNatClampNeg)) rfl rfl (Nat.le_of_ble_eq_true rfl) ⟨rfl, rfl⟩ ⟨Nat.le_of_ble_eq_true rfl, Nat.le_of_ble_eq_true rfl⟩ dL_law_563 (fun r2 v2 w2 p2 => ?_)
  refine J_pop E dL_law_566 rfl ?_
  refine J_goto E 1328 dL_law_567 (by decide) ?_
  exact K v2 w2 p2.1 ((hRel.kp S7 T7.2.choose_spec.2 S8 p1.2.1).kp S7 T7.2.choose_spec.2 S8 p2.2.1)
set_option maxHeartbeats 4000000 in
set_option maxRecDepth 100000 in
theorem lc_14 (X : LwE p s m meth c cells slots D dA G b L xs a7 a8 adK adV) (hOk : Ok G v w) (hRel : Rl G a7 a8 v) (hb : Bd x 0 ((L : Int) - 5)) (hL : L ≤ 2560) (K : ∀ v1 w1, Ok G v1 w1 → Rl G a7 a8 v1 → J p l e room_1 s m args below meth c cells slots Q D dA G (Al s) s.heap 4 v1 w1 (LV b a7 a8 x) 1328 []) : J p l e room_1 s m args below meth c cells slots Q D dA G (Al s) s.heap 4 v w (LV b a7 a8 x) 570 [] := by
  obtain ⟨E, hX, hbl, T7, T8, hSX, hSR⟩ := X
  have S7 := T7.1
  have S8 := T8.1
  have hbA : ¬ Al s b := Nat.not_le.mpr hbl
  refine J_aload_n E dL_law_570 2 rfl ?_
  refine J_callVI E cal_X7_held wd661 rfl (S_X7.h S7) [] [] (ct_X7_held l D dA G v w hOk a7 S7 ) rfl rfl (Nat.le_of_ble_eq_true rfl) ⟨rfl, rfl⟩ ⟨Nat.le_of_ble_eq_true rfl, Nat.le_of_ble_eq_true rfl⟩ dL_law_571 (fun r1 v1 w1 p1 => ?_)
  refine J_pop E dL_law_574 rfl ?_
  refine J_aload_n E dL_law_575 1 rfl ?_
  refine J_callVI E cal_X8_held wd1191 rfl (S_X8.h S8) [] [] (ct_X8_held l D dA G v1 w1 (hOk.same p1.1 p1.2.1) a8 S8 ) rfl rfl (Nat.le_of_ble_eq_true rfl) ⟨rfl, rfl⟩ ⟨Nat.le_of_ble_eq_true rfl, Nat.le_of_ble_eq_true rfl⟩ dL_law_576 (fun r2 v2 w2 p2 => ?_)
  refine J_pop E dL_law_579 rfl ?_
  refine J_goto E 1328 dL_law_580 (by decide) ?_
  exact K v2 w2 ((hOk.same p1.1 p1.2.1).same p2.1 p2.2.1) ((hRel.same p1.1).same p2.1)
set_option maxHeartbeats 4000000 in
set_option maxRecDepth 100000 in
theorem lc_15 (X : LwE p s m meth c cells slots D dA G b L xs a7 a8 adK adV) (hOk : Ok G v w) (hRel : Rl G a7 a8 v) (hb : Bd x 0 ((L : Int) - 5)) (hL : L ≤ 2560) (K : ∀ v1 w1, Ok G v1 w1 → Rl G a7 a8 v1 → J p l e room_1 s m args below meth c cells slots Q D dA G (Al s) s.heap 4 v1 w1 (LV b a7 a8 x) 1328 []) : J p l e room_1 s m args below meth c cells slots Q D dA G (Al s) s.heap 4 v w (LV b a7 a8 x) 583 [] := by
  obtain ⟨E, hX, hbl, T7, T8, hSX, hSR⟩ := X
  have S7 := T7.1
  have S8 := T8.1
  have hbA : ¬ Al s b := Nat.not_le.mpr hbl
  refine J_aload_n E dL_law_583 2 rfl ?_
  refine J_arg 1 1 E hX hbl hbA (by decide) (arg_in 1 hb hL (by unfold Bd; decide)) dL_law_584 dL_law_585 dL_law_586 dL_law_587 dL_law_588 ?_
  refine J_callVI E cal_X7_left wd667 rfl (S_X7.h S7) [.int (xs (x + 1).toNatClampNeg)] [] (ct_X7_left l D dA G v w hOk a7 S7 (xs (x + 1).toNatClampNeg)) rfl rfl (Nat.le_of_ble_eq_true rfl) ⟨rfl, rfl⟩ ⟨Nat.le_of_ble_eq_true rfl, Nat.le_of_ble_eq_true rfl⟩ dL_law_589 (fun r1 v1 w1 p1 => ?_)
  refine J_pop E dL_law_592 rfl ?_
  refine J_aload_n E dL_law_593 1 rfl ?_
  refine J_arg 1 1 E hX hbl hbA (by decide) (arg_in 1 hb hL (by unfold Bd; decide)) dL_law_594 dL_law_595 dL_law_596 dL_law_597 dL_law_598 ?_
  refine J_callVI E cal_X8_left wd1195 rfl (S_X8.h S8) [.int (xs (x + 1).toNatClampNeg)] [] (ct_X8_left l D dA G v1 w1 p1.1 a8 S8 (xs (x + 1).toNatClampNeg)) rfl rfl (Nat.le_of_ble_eq_true rfl) ⟨rfl, rfl⟩ ⟨Nat.le_of_ble_eq_true rfl, Nat.le_of_ble_eq_true rfl⟩ dL_law_599 (fun r2 v2 w2 p2 => ?_)
  refine J_pop E dL_law_602 rfl ?_
  refine J_goto E 1328 dL_law_603 (by decide) ?_
  exact K v2 w2 p2.1 ((hRel.kp S7 T7.2.choose_spec.2 S8 p1.2.1).kp S7 T7.2.choose_spec.2 S8 p2.2.1)
set_option maxHeartbeats 4000000 in
set_option maxRecDepth 100000 in
theorem lc_16 (X : LwE p s m meth c cells slots D dA G b L xs a7 a8 adK adV) (hOk : Ok G v w) (hRel : Rl G a7 a8 v) (hb : Bd x 0 ((L : Int) - 5)) (hL : L ≤ 2560) (K : ∀ v1 w1, Ok G v1 w1 → Rl G a7 a8 v1 → J p l e room_1 s m args below meth c cells slots Q D dA G (Al s) s.heap 4 v1 w1 (LV b a7 a8 x) 1328 []) : J p l e room_1 s m args below meth c cells slots Q D dA G (Al s) s.heap 4 v w (LV b a7 a8 x) 606 [] := by
  obtain ⟨E, hX, hbl, T7, T8, hSX, hSR⟩ := X
  have S7 := T7.1
  have S8 := T8.1
  have hbA : ¬ Al s b := Nat.not_le.mpr hbl
  refine J_aload_n E dL_law_606 2 rfl ?_
  refine J_arg 1 1 E hX hbl hbA (by decide) (arg_in 1 hb hL (by unfold Bd; decide)) dL_law_607 dL_law_608 dL_law_609 dL_law_610 dL_law_611 ?_
  refine J_callVI E cal_X7_when wd672 rfl (S_X7.h S7) [.int (xs (x + 1).toNatClampNeg)] [] (ct_X7_when l D dA G v w hOk a7 S7 (xs (x + 1).toNatClampNeg)) rfl rfl (Nat.le_of_ble_eq_true rfl) ⟨rfl, rfl⟩ ⟨Nat.le_of_ble_eq_true rfl, Nat.le_of_ble_eq_true rfl⟩ dL_law_612 (fun r1 v1 w1 p1 => ?_)
  refine J_pop E dL_law_615 rfl ?_
  refine J_aload_n E dL_law_616 1 rfl ?_
  refine J_arg 1 1 E hX hbl hbA (by decide) (arg_in 1 hb hL (by unfold Bd; decide)) dL_law_617 dL_law_618 dL_law_619 dL_law_620 dL_law_621 ?_
  refine J_callVI E cal_X8_when wd1203 rfl (S_X8.h S8) [.int (xs (x + 1).toNatClampNeg)] [] (ct_X8_when l D dA G v1 w1 p1.1 a8 S8 (xs (x + 1).toNatClampNeg)) rfl rfl (Nat.le_of_ble_eq_true rfl) ⟨rfl, rfl⟩ ⟨Nat.le_of_ble_eq_true rfl, Nat.le_of_ble_eq_true rfl⟩ dL_law_622 (fun r2 v2 w2 p2 => ?_)
  refine J_pop E dL_law_625 rfl ?_
  refine J_goto E 1328 dL_law_626 (by decide) ?_
  exact K v2 w2 p2.1 ((hRel.kp S7 T7.2.choose_spec.2 S8 p1.2.1).kp S7 T7.2.choose_spec.2 S8 p2.2.1)
set_option maxHeartbeats 4000000 in
set_option maxRecDepth 100000 in
theorem lc_17 (X : LwE p s m meth c cells slots D dA G b L xs a7 a8 adK adV) (hOk : Ok G v w) (hRel : Rl G a7 a8 v) (hb : Bd x 0 ((L : Int) - 5)) (hL : L ≤ 2560) (K : ∀ v1 w1, Ok G v1 w1 → Rl G a7 a8 v1 → J p l e room_1 s m args below meth c cells slots Q D dA G (Al s) s.heap 4 v1 w1 (LV b a7 a8 x) 1328 []) : J p l e room_1 s m args below meth c cells slots Q D dA G (Al s) s.heap 4 v w (LV b a7 a8 x) 629 [] := by
  obtain ⟨E, hX, hbl, T7, T8, hSX, hSR⟩ := X
  have S7 := T7.1
  have S8 := T8.1
  have hbA : ¬ Al s b := Nat.not_le.mpr hbl
  refine J_aload_n E dL_law_629 2 rfl ?_
  refine J_arg 1 1 E hX hbl hbA (by decide) (arg_in 1 hb hL (by unfold Bd; decide)) dL_law_630 dL_law_631 dL_law_632 dL_law_633 dL_law_634 ?_
  refine J_arg 2 2 E hX hbl hbA (by decide) (arg_in 2 hb hL (by unfold Bd; decide)) dL_law_635 dL_law_636 dL_law_637 dL_law_638 dL_law_639 ?_
  refine J_callVI E cal_X7_lasts wd676 rfl (S_X7.h S7) [.int (xs (x + 1).toNatClampNeg), .int (xs (x + 2).toNatClampNeg)] [] (ct_X7_lasts l D dA G v w hOk a7 S7 (xs (x + 1).toNatClampNeg) (xs (x + 2).toNatClampNeg)) rfl rfl (Nat.le_of_ble_eq_true rfl) ⟨rfl, rfl⟩ ⟨Nat.le_of_ble_eq_true rfl, Nat.le_of_ble_eq_true rfl⟩ dL_law_640 (fun r1 v1 w1 p1 => ?_)
  refine J_pop E dL_law_643 rfl ?_
  refine J_aload_n E dL_law_644 1 rfl ?_
  refine J_arg 1 1 E hX hbl hbA (by decide) (arg_in 1 hb hL (by unfold Bd; decide)) dL_law_645 dL_law_646 dL_law_647 dL_law_648 dL_law_649 ?_
  refine J_arg 2 2 E hX hbl hbA (by decide) (arg_in 2 hb hL (by unfold Bd; decide)) dL_law_650 dL_law_651 dL_law_652 dL_law_653 dL_law_654 ?_
  refine J_callVI E cal_X8_lasts wd1207 rfl (S_X8.h S8) [.int (xs (x + 1).toNatClampNeg), .int (xs (x + 2).toNatClampNeg)] [] (ct_X8_lasts l D dA G v1 w1 p1.1 a8 S8 (xs (x + 1).toNatClampNeg) (xs (x + 2).toNatClampNeg)) rfl rfl (Nat.le_of_ble_eq_true rfl) ⟨rfl, rfl⟩ ⟨Nat.le_of_ble_eq_true rfl, Nat.le_of_ble_eq_true rfl⟩ dL_law_655 (fun r2 v2 w2 p2 => ?_)
  refine J_pop E dL_law_658 rfl ?_
  refine J_goto E 1328 dL_law_659 (by decide) ?_
  exact K v2 w2 p2.1 ((hRel.kp S7 T7.2.choose_spec.2 S8 p1.2.1).kp S7 T7.2.choose_spec.2 S8 p2.2.1)
set_option maxHeartbeats 4000000 in
set_option maxRecDepth 100000 in
theorem lc_18 (X : LwE p s m meth c cells slots D dA G b L xs a7 a8 adK adV) (hOk : Ok G v w) (hRel : Rl G a7 a8 v) (hb : Bd x 0 ((L : Int) - 5)) (hL : L ≤ 2560) (K : ∀ v1 w1, Ok G v1 w1 → Rl G a7 a8 v1 → J p l e room_1 s m args below meth c cells slots Q D dA G (Al s) s.heap 4 v1 w1 (LV b a7 a8 x) 1328 []) : J p l e room_1 s m args below meth c cells slots Q D dA G (Al s) s.heap 4 v w (LV b a7 a8 x) 662 [] := by
  obtain ⟨E, hX, hbl, T7, T8, hSX, hSR⟩ := X
  have S7 := T7.1
  have S8 := T8.1
  have hbA : ¬ Al s b := Nat.not_le.mpr hbl
  refine J_aload_n E dL_law_662 2 rfl ?_
  refine J_arg 1 1 E hX hbl hbA (by decide) (arg_in 1 hb hL (by unfold Bd; decide)) dL_law_663 dL_law_664 dL_law_665 dL_law_666 dL_law_667 ?_
  refine J_arg 2 2 E hX hbl hbA (by decide) (arg_in 2 hb hL (by unfold Bd; decide)) dL_law_668 dL_law_669 dL_law_670 dL_law_671 dL_law_672 ?_
  refine J_callVI E cal_X7_match wd680 rfl (S_X7.h S7) [.int (xs (x + 1).toNatClampNeg), .int (xs (x + 2).toNatClampNeg)] [] (ct_X7_match l D dA G v w hOk a7 S7 (xs (x + 1).toNatClampNeg) (xs (x + 2).toNatClampNeg)) rfl rfl (Nat.le_of_ble_eq_true rfl) ⟨rfl, rfl⟩ ⟨Nat.le_of_ble_eq_true rfl, Nat.le_of_ble_eq_true rfl⟩ dL_law_673 (fun r1 v1 w1 p1 => ?_)
  refine J_pop E dL_law_676 rfl ?_
  refine J_aload_n E dL_law_677 1 rfl ?_
  refine J_arg 1 1 E hX hbl hbA (by decide) (arg_in 1 hb hL (by unfold Bd; decide)) dL_law_678 dL_law_679 dL_law_680 dL_law_681 dL_law_682 ?_
  refine J_arg 2 2 E hX hbl hbA (by decide) (arg_in 2 hb hL (by unfold Bd; decide)) dL_law_683 dL_law_684 dL_law_685 dL_law_686 dL_law_687 ?_
  refine J_callVI E cal_X8_match wd1215 rfl (S_X8.h S8) [.int (xs (x + 1).toNatClampNeg), .int (xs (x + 2).toNatClampNeg)] [] (ct_X8_match l D dA G v1 w1 p1.1 a8 S8 (xs (x + 1).toNatClampNeg) (xs (x + 2).toNatClampNeg)) rfl rfl (Nat.le_of_ble_eq_true rfl) ⟨rfl, rfl⟩ ⟨Nat.le_of_ble_eq_true rfl, Nat.le_of_ble_eq_true rfl⟩ dL_law_688 (fun r2 v2 w2 p2 => ?_)
  refine J_pop E dL_law_691 rfl ?_
  refine J_goto E 1328 dL_law_692 (by decide) ?_
  exact K v2 w2 p2.1 ((hRel.kp S7 T7.2.choose_spec.2 S8 p1.2.1).kp S7 T7.2.choose_spec.2 S8 p2.2.1)
set_option maxHeartbeats 4000000 in
set_option maxRecDepth 100000 in
theorem lc_19 (X : LwE p s m meth c cells slots D dA G b L xs a7 a8 adK adV) (hOk : Ok G v w) (hRel : Rl G a7 a8 v) (hb : Bd x 0 ((L : Int) - 5)) (hL : L ≤ 2560) (K : ∀ v1 w1, Ok G v1 w1 → Rl G a7 a8 v1 → J p l e room_1 s m args below meth c cells slots Q D dA G (Al s) s.heap 4 v1 w1 (LV b a7 a8 x) 1328 []) : J p l e room_1 s m args below meth c cells slots Q D dA G (Al s) s.heap 4 v w (LV b a7 a8 x) 695 [] := by
  obtain ⟨E, hX, hbl, T7, T8, hSX, hSR⟩ := X
  have S7 := T7.1
  have S8 := T8.1
  have hbA : ¬ Al s b := Nat.not_le.mpr hbl
  refine J_aload_n E dL_law_695 2 rfl ?_
  refine J_arg 1 1 E hX hbl hbA (by decide) (arg_in 1 hb hL (by unfold Bd; decide)) dL_law_696 dL_law_697 dL_law_698 dL_law_699 dL_law_700 ?_
  refine J_callVI E cal_X7_light wd710 rfl (S_X7.h S7) [.int (xs (x + 1).toNatClampNeg)] [] (ct_X7_light l D dA G v w hOk a7 S7 (xs (x + 1).toNatClampNeg)) rfl rfl (Nat.le_of_ble_eq_true rfl) ⟨rfl, rfl⟩ ⟨Nat.le_of_ble_eq_true rfl, Nat.le_of_ble_eq_true rfl⟩ dL_law_701 (fun r1 v1 w1 p1 => ?_)
  refine J_pop E dL_law_704 rfl ?_
  refine J_aload_n E dL_law_705 1 rfl ?_
  refine J_arg 1 1 E hX hbl hbA (by decide) (arg_in 1 hb hL (by unfold Bd; decide)) dL_law_706 dL_law_707 dL_law_708 dL_law_709 dL_law_710 ?_
  refine J_callVI E cal_X8_light wd1224 rfl (S_X8.h S8) [.int (xs (x + 1).toNatClampNeg)] [] (ct_X8_light l D dA G v1 w1 p1.1 a8 S8 (xs (x + 1).toNatClampNeg)) rfl rfl (Nat.le_of_ble_eq_true rfl) ⟨rfl, rfl⟩ ⟨Nat.le_of_ble_eq_true rfl, Nat.le_of_ble_eq_true rfl⟩ dL_law_711 (fun r2 v2 w2 p2 => ?_)
  refine J_pop E dL_law_714 rfl ?_
  refine J_goto E 1328 dL_law_715 (by decide) ?_
  exact K v2 w2 p2.1 ((hRel.kp S7 T7.2.choose_spec.2 S8 p1.2.1).kp S7 T7.2.choose_spec.2 S8 p2.2.1)
set_option maxHeartbeats 4000000 in
set_option maxRecDepth 100000 in
theorem lc_20 (X : LwE p s m meth c cells slots D dA G b L xs a7 a8 adK adV) (hOk : Ok G v w) (hRel : Rl G a7 a8 v) (hb : Bd x 0 ((L : Int) - 5)) (hL : L ≤ 2560) (K : ∀ v1 w1, Ok G v1 w1 → Rl G a7 a8 v1 → J p l e room_1 s m args below meth c cells slots Q D dA G (Al s) s.heap 4 v1 w1 (LV b a7 a8 x) 1328 []) : J p l e room_1 s m args below meth c cells slots Q D dA G (Al s) s.heap 4 v w (LV b a7 a8 x) 718 [] := by
  obtain ⟨E, hX, hbl, T7, T8, hSX, hSR⟩ := X
  have S7 := T7.1
  have S8 := T8.1
  have hbA : ¬ Al s b := Nat.not_le.mpr hbl
  refine J_aload_n E dL_law_718 2 rfl ?_
  refine J_arg 1 1 E hX hbl hbA (by decide) (arg_in 1 hb hL (by unfold Bd; decide)) dL_law_719 dL_law_720 dL_law_721 dL_law_722 dL_law_723 ?_
  refine J_arg 2 2 E hX hbl hbA (by decide) (arg_in 2 hb hL (by unfold Bd; decide)) dL_law_724 dL_law_725 dL_law_726 dL_law_727 dL_law_728 ?_
  refine J_callVI E cal_X7_two wd719 rfl (S_X7.h S7) [.int (xs (x + 1).toNatClampNeg), .int (xs (x + 2).toNatClampNeg)] [] (ct_X7_two l D dA G v w hOk a7 S7 (xs (x + 1).toNatClampNeg) (xs (x + 2).toNatClampNeg)) rfl rfl (Nat.le_of_ble_eq_true rfl) ⟨rfl, rfl⟩ ⟨Nat.le_of_ble_eq_true rfl, Nat.le_of_ble_eq_true rfl⟩ dL_law_729 (fun r1 v1 w1 p1 => ?_)
  refine J_pop E dL_law_732 rfl ?_
  refine J_aload_n E dL_law_733 1 rfl ?_
  refine J_arg 1 1 E hX hbl hbA (by decide) (arg_in 1 hb hL (by unfold Bd; decide)) dL_law_734 dL_law_735 dL_law_736 dL_law_737 dL_law_738 ?_
  refine J_arg 2 2 E hX hbl hbA (by decide) (arg_in 2 hb hL (by unfold Bd; decide)) dL_law_739 dL_law_740 dL_law_741 dL_law_742 dL_law_743 ?_
  refine J_callVI E cal_X8_two wd1228 rfl (S_X8.h S8) [.int (xs (x + 1).toNatClampNeg), .int (xs (x + 2).toNatClampNeg)] [] (ct_X8_two l D dA G v1 w1 p1.1 a8 S8 (xs (x + 1).toNatClampNeg) (xs (x + 2).toNatClampNeg)) rfl rfl (Nat.le_of_ble_eq_true rfl) ⟨rfl, rfl⟩ ⟨Nat.le_of_ble_eq_true rfl, Nat.le_of_ble_eq_true rfl⟩ dL_law_744 (fun r2 v2 w2 p2 => ?_)
  refine J_pop E dL_law_747 rfl ?_
  refine J_goto E 1328 dL_law_748 (by decide) ?_
  exact K v2 w2 p2.1 ((hRel.kp S7 T7.2.choose_spec.2 S8 p1.2.1).kp S7 T7.2.choose_spec.2 S8 p2.2.1)
set_option maxHeartbeats 4000000 in
set_option maxRecDepth 100000 in
theorem lc_21 (X : LwE p s m meth c cells slots D dA G b L xs a7 a8 adK adV) (hOk : Ok G v w) (hRel : Rl G a7 a8 v) (hb : Bd x 0 ((L : Int) - 5)) (hL : L ≤ 2560) (K : ∀ v1 w1, Ok G v1 w1 → Rl G a7 a8 v1 → J p l e room_1 s m args below meth c cells slots Q D dA G (Al s) s.heap 4 v1 w1 (LV b a7 a8 x) 1328 []) : J p l e room_1 s m args below meth c cells slots Q D dA G (Al s) s.heap 4 v w (LV b a7 a8 x) 751 [] := by
  obtain ⟨E, hX, hbl, T7, T8, hSX, hSR⟩ := X
  have S7 := T7.1
  have S8 := T8.1
  have hbA : ¬ Al s b := Nat.not_le.mpr hbl
  refine J_aload_n E dL_law_751 2 rfl ?_
  refine J_arg 1 1 E hX hbl hbA (by decide) (arg_in 1 hb hL (by unfold Bd; decide)) dL_law_752 dL_law_753 dL_law_754 dL_law_755 dL_law_756 ?_
  refine J_arg 2 2 E hX hbl hbA (by decide) (arg_in 2 hb hL (by unfold Bd; decide)) dL_law_757 dL_law_758 dL_law_759 dL_law_760 dL_law_761 ?_
  refine J_arg 3 3 E hX hbl hbA (by decide) (arg_in 3 hb hL (by unfold Bd; decide)) dL_law_762 dL_law_763 dL_law_764 dL_law_765 dL_law_766 ?_
  refine J_arg 4 4 E hX hbl hbA (by decide) (arg_in 4 hb hL (by unfold Bd; decide)) dL_law_767 dL_law_768 dL_law_769 dL_law_770 dL_law_771 ?_
  refine J_callVI E cal_X7_seen wd727 rfl (S_X7.h S7) [.int (xs (x + 1).toNatClampNeg), .int (xs (x + 2).toNatClampNeg), .int (xs (x + 3).toNatClampNeg), .int (xs (x + 4).toNatClampNeg)] [] (ct_X7_seen l D dA G v w hOk a7 S7 (xs (x + 1).toNatClampNeg) (xs (x + 2).toNatClampNeg) (xs (x + 3).toNatClampNeg) (xs (x + 4).toNatClampNeg)) rfl rfl (Nat.le_of_ble_eq_true rfl) ⟨rfl, rfl⟩ ⟨Nat.le_of_ble_eq_true rfl, Nat.le_of_ble_eq_true rfl⟩ dL_law_772 (fun r1 v1 w1 p1 => ?_)
  refine J_pop E dL_law_775 rfl ?_
  refine J_aload_n E dL_law_776 1 rfl ?_
  refine J_arg 1 1 E hX hbl hbA (by decide) (arg_in 1 hb hL (by unfold Bd; decide)) dL_law_777 dL_law_778 dL_law_779 dL_law_780 dL_law_781 ?_
  refine J_arg 2 2 E hX hbl hbA (by decide) (arg_in 2 hb hL (by unfold Bd; decide)) dL_law_782 dL_law_783 dL_law_784 dL_law_785 dL_law_786 ?_
  refine J_arg 3 3 E hX hbl hbA (by decide) (arg_in 3 hb hL (by unfold Bd; decide)) dL_law_787 dL_law_788 dL_law_789 dL_law_790 dL_law_791 ?_
  refine J_arg 4 4 E hX hbl hbA (by decide) (arg_in 4 hb hL (by unfold Bd; decide)) dL_law_792 dL_law_793 dL_law_794 dL_law_795 dL_law_796 ?_
  refine J_callVI E cal_X8_seen wd1236 rfl (S_X8.h S8) [.int (xs (x + 1).toNatClampNeg), .int (xs (x + 2).toNatClampNeg), .int (xs (x + 3).toNatClampNeg), .int (xs (x + 4).toNatClampNeg)] [] (ct_X8_seen l D dA G v1 w1 p1.1 a8 S8 (xs (x + 1).toNatClampNeg) (xs (x + 2).toNatClampNeg) (xs (x + 3).toNatClampNeg) (xs (x + 4).toNatClampNeg)) rfl rfl (Nat.le_of_ble_eq_true rfl) ⟨rfl, rfl⟩ ⟨Nat.le_of_ble_eq_true rfl, Nat.le_of_ble_eq_true rfl⟩ dL_law_797 (fun r2 v2 w2 p2 => ?_)
  refine J_pop E dL_law_800 rfl ?_
  refine J_goto E 1328 dL_law_801 (by decide) ?_
  exact K v2 w2 p2.1 (Rl.seen S7 T7.2.choose_spec.2 S8 hOk hRel p1.2.2.2.1 p1.2.2.2.2 p2.2.2.2.1 p2.2.2.2.2 p2.1).2
set_option maxHeartbeats 4000000 in
set_option maxRecDepth 100000 in
theorem lc_22 (X : LwE p s m meth c cells slots D dA G b L xs a7 a8 adK adV) (hOk : Ok G v w) (hRel : Rl G a7 a8 v) (hb : Bd x 0 ((L : Int) - 5)) (hL : L ≤ 2560) (K : ∀ v1 w1, Ok G v1 w1 → Rl G a7 a8 v1 → J p l e room_1 s m args below meth c cells slots Q D dA G (Al s) s.heap 4 v1 w1 (LV b a7 a8 x) 1328 []) : J p l e room_1 s m args below meth c cells slots Q D dA G (Al s) s.heap 4 v w (LV b a7 a8 x) 804 [] := by
  obtain ⟨E, hX, hbl, T7, T8, hSX, hSR⟩ := X
  have S7 := T7.1
  have S8 := T8.1
  have hbA : ¬ Al s b := Nat.not_le.mpr hbl
  refine J_aload_n E dL_law_804 2 rfl ?_
  refine J_arg 1 1 E hX hbl hbA (by decide) (arg_in 1 hb hL (by unfold Bd; decide)) dL_law_805 dL_law_806 dL_law_807 dL_law_808 dL_law_809 ?_
  refine J_arg 2 2 E hX hbl hbA (by decide) (arg_in 2 hb hL (by unfold Bd; decide)) dL_law_810 dL_law_811 dL_law_812 dL_law_813 dL_law_814 ?_
  refine J_callVI E cal_X7_strong wd739 rfl (S_X7.h S7) [.int (xs (x + 1).toNatClampNeg), .int (xs (x + 2).toNatClampNeg)] [] (ct_X7_strong l D dA G v w hOk a7 S7 (xs (x + 1).toNatClampNeg) (xs (x + 2).toNatClampNeg)) rfl rfl (Nat.le_of_ble_eq_true rfl) ⟨rfl, rfl⟩ ⟨Nat.le_of_ble_eq_true rfl, Nat.le_of_ble_eq_true rfl⟩ dL_law_815 (fun r1 v1 w1 p1 => ?_)
  refine J_pop E dL_law_818 rfl ?_
  refine J_aload_n E dL_law_819 1 rfl ?_
  refine J_arg 1 1 E hX hbl hbA (by decide) (arg_in 1 hb hL (by unfold Bd; decide)) dL_law_820 dL_law_821 dL_law_822 dL_law_823 dL_law_824 ?_
  refine J_arg 2 2 E hX hbl hbA (by decide) (arg_in 2 hb hL (by unfold Bd; decide)) dL_law_825 dL_law_826 dL_law_827 dL_law_828 dL_law_829 ?_
  refine J_callVI E cal_X8_strong wd1244 rfl (S_X8.h S8) [.int (xs (x + 1).toNatClampNeg), .int (xs (x + 2).toNatClampNeg)] [] (ct_X8_strong l D dA G v1 w1 p1.1 a8 S8 (xs (x + 1).toNatClampNeg) (xs (x + 2).toNatClampNeg)) rfl rfl (Nat.le_of_ble_eq_true rfl) ⟨rfl, rfl⟩ ⟨Nat.le_of_ble_eq_true rfl, Nat.le_of_ble_eq_true rfl⟩ dL_law_830 (fun r2 v2 w2 p2 => ?_)
  refine J_pop E dL_law_833 rfl ?_
  refine J_goto E 1328 dL_law_834 (by decide) ?_
  exact K v2 w2 p2.1 ((hRel.kp S7 T7.2.choose_spec.2 S8 p1.2.1).kp S7 T7.2.choose_spec.2 S8 p2.2.1)
set_option maxHeartbeats 4000000 in
set_option maxRecDepth 100000 in
theorem lc_23 (X : LwE p s m meth c cells slots D dA G b L xs a7 a8 adK adV) (hOk : Ok G v w) (hRel : Rl G a7 a8 v) (hb : Bd x 0 ((L : Int) - 5)) (hL : L ≤ 2560) (K : ∀ v1 w1, Ok G v1 w1 → Rl G a7 a8 v1 → J p l e room_1 s m args below meth c cells slots Q D dA G (Al s) s.heap 4 v1 w1 (LV b a7 a8 x) 1328 []) : J p l e room_1 s m args below meth c cells slots Q D dA G (Al s) s.heap 4 v w (LV b a7 a8 x) 837 [] := by
  obtain ⟨E, hX, hbl, T7, T8, hSX, hSR⟩ := X
  have S7 := T7.1
  have S8 := T8.1
  have hbA : ¬ Al s b := Nat.not_le.mpr hbl
  refine J_aload_n E dL_law_837 2 rfl ?_
  refine J_arg 1 1 E hX hbl hbA (by decide) (arg_in 1 hb hL (by unfold Bd; decide)) dL_law_838 dL_law_839 dL_law_840 dL_law_841 dL_law_842 ?_
  refine J_callVI E cal_X7_tell wd762 rfl (S_X7.h S7) [.int (xs (x + 1).toNatClampNeg)] [] (ct_X7_tell l D dA G v w hOk a7 S7 (xs (x + 1).toNatClampNeg)) rfl rfl (Nat.le_of_ble_eq_true rfl) ⟨rfl, rfl⟩ ⟨Nat.le_of_ble_eq_true rfl, Nat.le_of_ble_eq_true rfl⟩ dL_law_843 (fun r1 v1 w1 p1 => ?_)
  refine J_aload_n E dL_law_846 1 rfl ?_
  refine J_arg 1 1 E hX hbl hbA (by decide) (arg_in 1 hb hL (by unfold Bd; decide)) dL_law_847 dL_law_848 dL_law_849 dL_law_850 dL_law_851 ?_
  refine J_callVI E cal_X8_tell wd1252 rfl (S_X8.h S8) [.int (xs (x + 1).toNatClampNeg)] [.int r1] (ct_X8_tell l D dA G v1 w1 p1.1 a8 S8 (xs (x + 1).toNatClampNeg)) rfl rfl (Nat.le_of_ble_eq_true rfl) ⟨rfl, rfl⟩ ⟨Nat.le_of_ble_eq_true rfl, Nat.le_of_ble_eq_true rfl⟩ dL_law_852 (fun r2 v2 w2 p2 => ?_)
  exact J_icmp_eq E 1328 dL_law_855 (by decide) (fun _ => K v2 w2 p2.1 ((hRel.kp S7 T7.2.choose_spec.2 S8 p1.2.1).kp S7 T7.2.choose_spec.2 S8 p2.2.1)) (fun q => absurd (m_tell S7 S8 (hRel.2.fu S8 p1.2.2.2.2 rfl rfl) p1.2.2.2.1.2 p2.2.2.2.1.2) q)
set_option maxHeartbeats 4000000 in
set_option maxRecDepth 100000 in
theorem lc_24 (X : LwE p s m meth c cells slots D dA G b L xs a7 a8 adK adV) (hOk : Ok G v w) (hRel : Rl G a7 a8 v) (hb : Bd x 0 ((L : Int) - 5)) (hL : L ≤ 2560) (K : ∀ v1 w1, Ok G v1 w1 → Rl G a7 a8 v1 → J p l e room_1 s m args below meth c cells slots Q D dA G (Al s) s.heap 4 v1 w1 (LV b a7 a8 x) 1328 []) : J p l e room_1 s m args below meth c cells slots Q D dA G (Al s) s.heap 4 v w (LV b a7 a8 x) 860 [] := by
  obtain ⟨E, hX, hbl, T7, T8, hSX, hSR⟩ := X
  have S7 := T7.1
  have S8 := T8.1
  have hbA : ¬ Al s b := Nat.not_le.mpr hbl
  refine J_aload_n E dL_law_860 2 rfl ?_
  refine J_arg 1 1 E hX hbl hbA (by decide) (arg_in 1 hb hL (by unfold Bd; decide)) dL_law_861 dL_law_862 dL_law_863 dL_law_864 dL_law_865 ?_
  refine J_arg 2 2 E hX hbl hbA (by decide) (arg_in 2 hb hL (by unfold Bd; decide)) dL_law_866 dL_law_867 dL_law_868 dL_law_869 dL_law_870 ?_
  refine J_arg 3 3 E hX hbl hbA (by decide) (arg_in 3 hb hL (by unfold Bd; decide)) dL_law_871 dL_law_872 dL_law_873 dL_law_874 dL_law_875 ?_
  refine J_arg 4 4 E hX hbl hbA (by decide) (arg_in 4 hb hL (by unfold Bd; decide)) dL_law_876 dL_law_877 dL_law_878 dL_law_879 dL_law_880 ?_
  refine J_callVI E cal_X7_note wd780 rfl (S_X7.h S7) [.int (xs (x + 1).toNatClampNeg), .int (xs (x + 2).toNatClampNeg), .int (xs (x + 3).toNatClampNeg), .int (xs (x + 4).toNatClampNeg)] [] (ct_X7_note l D dA G v w hOk a7 S7 (xs (x + 1).toNatClampNeg) (xs (x + 2).toNatClampNeg) (xs (x + 3).toNatClampNeg) (xs (x + 4).toNatClampNeg)) rfl rfl (Nat.le_of_ble_eq_true rfl) ⟨rfl, rfl⟩ ⟨Nat.le_of_ble_eq_true rfl, Nat.le_of_ble_eq_true rfl⟩ dL_law_881 (fun r1 v1 w1 p1 => ?_)
  refine J_pop E dL_law_884 rfl ?_
  refine J_aload_n E dL_law_885 1 rfl ?_
  refine J_arg 1 1 E hX hbl hbA (by decide) (arg_in 1 hb hL (by unfold Bd; decide)) dL_law_886 dL_law_887 dL_law_888 dL_law_889 dL_law_890 ?_
  refine J_arg 2 2 E hX hbl hbA (by decide) (arg_in 2 hb hL (by unfold Bd; decide)) dL_law_891 dL_law_892 dL_law_893 dL_law_894 dL_law_895 ?_
  refine J_arg 3 3 E hX hbl hbA (by decide) (arg_in 3 hb hL (by unfold Bd; decide)) dL_law_896 dL_law_897 dL_law_898 dL_law_899 dL_law_900 ?_
  refine J_arg 4 4 E hX hbl hbA (by decide) (arg_in 4 hb hL (by unfold Bd; decide)) dL_law_901 dL_law_902 dL_law_903 dL_law_904 dL_law_905 ?_
  refine J_callVI E cal_X8_note wd1256 rfl (S_X8.h S8) [.int (xs (x + 1).toNatClampNeg), .int (xs (x + 2).toNatClampNeg), .int (xs (x + 3).toNatClampNeg), .int (xs (x + 4).toNatClampNeg)] [] (ct_X8_note l D dA G v1 w1 p1.1 a8 S8 (xs (x + 1).toNatClampNeg) (xs (x + 2).toNatClampNeg) (xs (x + 3).toNatClampNeg) (xs (x + 4).toNatClampNeg)) rfl rfl (Nat.le_of_ble_eq_true rfl) ⟨rfl, rfl⟩ ⟨Nat.le_of_ble_eq_true rfl, Nat.le_of_ble_eq_true rfl⟩ dL_law_906 (fun r2 v2 w2 p2 => ?_)
  refine J_pop E dL_law_909 rfl ?_
  refine J_goto E 1328 dL_law_910 (by decide) ?_
  exact K v2 w2 p2.1 (Rl.note S7 T7.2.choose_spec.2 S8 hOk hRel p1.2.2.2.1 p1.2.2.2.2 p2.2.2.2.1 p2.2.2.2.2 p2.1).2
set_option maxHeartbeats 4000000 in
set_option maxRecDepth 100000 in
theorem lc_25 (X : LwE p s m meth c cells slots D dA G b L xs a7 a8 adK adV) (hOk : Ok G v w) (hRel : Rl G a7 a8 v) (hb : Bd x 0 ((L : Int) - 5)) (hL : L ≤ 2560) (K : ∀ v1 w1, Ok G v1 w1 → Rl G a7 a8 v1 → J p l e room_1 s m args below meth c cells slots Q D dA G (Al s) s.heap 4 v1 w1 (LV b a7 a8 x) 1328 []) : J p l e room_1 s m args below meth c cells slots Q D dA G (Al s) s.heap 4 v w (LV b a7 a8 x) 913 [] := by
  obtain ⟨E, hX, hbl, T7, T8, hSX, hSR⟩ := X
  have S7 := T7.1
  have S8 := T8.1
  have hbA : ¬ Al s b := Nat.not_le.mpr hbl
  refine J_aload_n E dL_law_913 2 rfl ?_
  refine J_arg 1 1 E hX hbl hbA (by decide) (arg_in 1 hb hL (by unfold Bd; decide)) dL_law_914 dL_law_915 dL_law_916 dL_law_917 dL_law_918 ?_
  refine J_arg 2 2 E hX hbl hbA (by decide) (arg_in 2 hb hL (by unfold Bd; decide)) dL_law_919 dL_law_920 dL_law_921 dL_law_922 dL_law_923 ?_
  refine J_arg 3 3 E hX hbl hbA (by decide) (arg_in 3 hb hL (by unfold Bd; decide)) dL_law_924 dL_law_925 dL_law_926 dL_law_927 dL_law_928 ?_
  refine J_arg 4 4 E hX hbl hbA (by decide) (arg_in 4 hb hL (by unfold Bd; decide)) dL_law_929 dL_law_930 dL_law_931 dL_law_932 dL_law_933 ?_
  refine J_callVI E cal_X7_mark wd784 rfl (S_X7.h S7) [.int (xs (x + 1).toNatClampNeg), .int (xs (x + 2).toNatClampNeg), .int (xs (x + 3).toNatClampNeg), .int (xs (x + 4).toNatClampNeg)] [] (ct_X7_mark l D dA G v w hOk a7 S7 (xs (x + 1).toNatClampNeg) (xs (x + 2).toNatClampNeg) (xs (x + 3).toNatClampNeg) (xs (x + 4).toNatClampNeg)) rfl rfl (Nat.le_of_ble_eq_true rfl) ⟨rfl, rfl⟩ ⟨Nat.le_of_ble_eq_true rfl, Nat.le_of_ble_eq_true rfl⟩ dL_law_934 (fun r1 v1 w1 p1 => ?_)
  refine J_pop E dL_law_937 rfl ?_
  refine J_aload_n E dL_law_938 1 rfl ?_
  refine J_arg 1 1 E hX hbl hbA (by decide) (arg_in 1 hb hL (by unfold Bd; decide)) dL_law_939 dL_law_940 dL_law_941 dL_law_942 dL_law_943 ?_
  refine J_arg 2 2 E hX hbl hbA (by decide) (arg_in 2 hb hL (by unfold Bd; decide)) dL_law_944 dL_law_945 dL_law_946 dL_law_947 dL_law_948 ?_
  refine J_arg 3 3 E hX hbl hbA (by decide) (arg_in 3 hb hL (by unfold Bd; decide)) dL_law_949 dL_law_950 dL_law_951 dL_law_952 dL_law_953 ?_
  refine J_arg 4 4 E hX hbl hbA (by decide) (arg_in 4 hb hL (by unfold Bd; decide)) dL_law_954 dL_law_955 dL_law_956 dL_law_957 dL_law_958 ?_
  refine J_callVI E cal_X8_mark wd1260 rfl (S_X8.h S8) [.int (xs (x + 1).toNatClampNeg), .int (xs (x + 2).toNatClampNeg), .int (xs (x + 3).toNatClampNeg), .int (xs (x + 4).toNatClampNeg)] [] (ct_X8_mark l D dA G v1 w1 p1.1 a8 S8 (xs (x + 1).toNatClampNeg) (xs (x + 2).toNatClampNeg) (xs (x + 3).toNatClampNeg) (xs (x + 4).toNatClampNeg)) rfl rfl (Nat.le_of_ble_eq_true rfl) ⟨rfl, rfl⟩ ⟨Nat.le_of_ble_eq_true rfl, Nat.le_of_ble_eq_true rfl⟩ dL_law_959 (fun r2 v2 w2 p2 => ?_)
  refine J_pop E dL_law_962 rfl ?_
  refine J_goto E 1328 dL_law_963 (by decide) ?_
  exact K v2 w2 p2.1 (Rl.mark S7 T7.2.choose_spec.2 S8 hOk hRel p1.2.2.2.1 p1.2.2.2.2 p2.2.2.2.1 p2.2.2.2.2 p2.1).2
set_option maxHeartbeats 4000000 in
set_option maxRecDepth 100000 in
theorem lc_26 (X : LwE p s m meth c cells slots D dA G b L xs a7 a8 adK adV) (hOk : Ok G v w) (hRel : Rl G a7 a8 v) (hb : Bd x 0 ((L : Int) - 5)) (hL : L ≤ 2560) (K : ∀ v1 w1, Ok G v1 w1 → Rl G a7 a8 v1 → J p l e room_1 s m args below meth c cells slots Q D dA G (Al s) s.heap 4 v1 w1 (LV b a7 a8 x) 1328 []) : J p l e room_1 s m args below meth c cells slots Q D dA G (Al s) s.heap 4 v w (LV b a7 a8 x) 966 [] := by
  obtain ⟨E, hX, hbl, T7, T8, hSX, hSR⟩ := X
  have S7 := T7.1
  have S8 := T8.1
  have hbA : ¬ Al s b := Nat.not_le.mpr hbl
  refine J_aload_n E dL_law_966 2 rfl ?_
  refine J_arg 1 1 E hX hbl hbA (by decide) (arg_in 1 hb hL (by unfold Bd; decide)) dL_law_967 dL_law_968 dL_law_969 dL_law_970 dL_law_971 ?_
  refine J_callVI E cal_X7_forget wd788 rfl (S_X7.h S7) [.int (xs (x + 1).toNatClampNeg)] [] (ct_X7_forget l D dA G v w hOk a7 S7 (xs (x + 1).toNatClampNeg)) rfl rfl (Nat.le_of_ble_eq_true rfl) ⟨rfl, rfl⟩ ⟨Nat.le_of_ble_eq_true rfl, Nat.le_of_ble_eq_true rfl⟩ dL_law_972 (fun r1 v1 w1 p1 => ?_)
  refine J_pop E dL_law_975 rfl ?_
  refine J_aload_n E dL_law_976 1 rfl ?_
  refine J_arg 1 1 E hX hbl hbA (by decide) (arg_in 1 hb hL (by unfold Bd; decide)) dL_law_977 dL_law_978 dL_law_979 dL_law_980 dL_law_981 ?_
  refine J_callVI E cal_X8_forget wd1264 rfl (S_X8.h S8) [.int (xs (x + 1).toNatClampNeg)] [] (ct_X8_forget l D dA G v1 w1 p1.1 a8 S8 (xs (x + 1).toNatClampNeg)) rfl rfl (Nat.le_of_ble_eq_true rfl) ⟨rfl, rfl⟩ ⟨Nat.le_of_ble_eq_true rfl, Nat.le_of_ble_eq_true rfl⟩ dL_law_982 (fun r2 v2 w2 p2 => ?_)
  refine J_pop E dL_law_985 rfl ?_
  refine J_goto E 1328 dL_law_986 (by decide) ?_
  exact K v2 w2 p2.1 (Rl.forget S7 T7.2.choose_spec.2 S8 hOk hRel p1.2.2.2.1 p1.2.2.2.2 p2.2.2.2.1 p2.2.2.2.2 p2.1).2
set_option maxHeartbeats 4000000 in
set_option maxRecDepth 100000 in
theorem lc_27 (X : LwE p s m meth c cells slots D dA G b L xs a7 a8 adK adV) (hOk : Ok G v w) (hRel : Rl G a7 a8 v) (hb : Bd x 0 ((L : Int) - 5)) (hL : L ≤ 2560) (K : ∀ v1 w1, Ok G v1 w1 → Rl G a7 a8 v1 → J p l e room_1 s m args below meth c cells slots Q D dA G (Al s) s.heap 4 v1 w1 (LV b a7 a8 x) 1328 []) : J p l e room_1 s m args below meth c cells slots Q D dA G (Al s) s.heap 4 v w (LV b a7 a8 x) 989 [] := by
  obtain ⟨E, hX, hbl, T7, T8, hSX, hSR⟩ := X
  have S7 := T7.1
  have S8 := T8.1
  have hbA : ¬ Al s b := Nat.not_le.mpr hbl
  refine J_aload_n E dL_law_989 2 rfl ?_
  refine J_arg 1 1 E hX hbl hbA (by decide) (arg_in 1 hb hL (by unfold Bd; decide)) dL_law_990 dL_law_991 dL_law_992 dL_law_993 dL_law_994 ?_
  refine J_callVI E cal_X7_is wd793 rfl (S_X7.h S7) [.int (xs (x + 1).toNatClampNeg)] [] (ct_X7_is l D dA G v w hOk a7 S7 (xs (x + 1).toNatClampNeg)) rfl rfl (Nat.le_of_ble_eq_true rfl) ⟨rfl, rfl⟩ ⟨Nat.le_of_ble_eq_true rfl, Nat.le_of_ble_eq_true rfl⟩ dL_law_995 (fun r1 v1 w1 p1 => ?_)
  refine J_pop E dL_law_998 rfl ?_
  refine J_aload_n E dL_law_999 1 rfl ?_
  refine J_arg 1 1 E hX hbl hbA (by decide) (arg_in 1 hb hL (by unfold Bd; decide)) dL_law_1000 dL_law_1001 dL_law_1002 dL_law_1003 dL_law_1004 ?_
  refine J_callVI E cal_X8_is wd1268 rfl (S_X8.h S8) [.int (xs (x + 1).toNatClampNeg)] [] (ct_X8_is l D dA G v1 w1 p1.1 a8 S8 (xs (x + 1).toNatClampNeg)) rfl rfl (Nat.le_of_ble_eq_true rfl) ⟨rfl, rfl⟩ ⟨Nat.le_of_ble_eq_true rfl, Nat.le_of_ble_eq_true rfl⟩ dL_law_1005 (fun r2 v2 w2 p2 => ?_)
  refine J_pop E dL_law_1008 rfl ?_
  refine J_goto E 1328 dL_law_1009 (by decide) ?_
  exact K v2 w2 p2.1 ((hRel.kp S7 T7.2.choose_spec.2 S8 p1.2.1).kp S7 T7.2.choose_spec.2 S8 p2.2.1)
set_option maxHeartbeats 4000000 in
set_option maxRecDepth 100000 in
theorem lc_28 (X : LwE p s m meth c cells slots D dA G b L xs a7 a8 adK adV) (hOk : Ok G v w) (hRel : Rl G a7 a8 v) (hb : Bd x 0 ((L : Int) - 5)) (hL : L ≤ 2560) (K : ∀ v1 w1, Ok G v1 w1 → Rl G a7 a8 v1 → J p l e room_1 s m args below meth c cells slots Q D dA G (Al s) s.heap 4 v1 w1 (LV b a7 a8 x) 1328 []) : J p l e room_1 s m args below meth c cells slots Q D dA G (Al s) s.heap 4 v w (LV b a7 a8 x) 1012 [] := by
  obtain ⟨E, hX, hbl, T7, T8, hSX, hSR⟩ := X
  have S7 := T7.1
  have S8 := T8.1
  have hbA : ¬ Al s b := Nat.not_le.mpr hbl
  refine J_aload_n E dL_law_1012 2 rfl ?_
  refine J_arg 1 1 E hX hbl hbA (by decide) (arg_in 1 hb hL (by unfold Bd; decide)) dL_law_1013 dL_law_1014 dL_law_1015 dL_law_1016 dL_law_1017 ?_
  refine J_callVI E cal_X7_look wd805 rfl (S_X7.h S7) [.int (xs (x + 1).toNatClampNeg)] [] (ct_X7_look l D dA G v w hOk a7 S7 (xs (x + 1).toNatClampNeg)) rfl rfl (Nat.le_of_ble_eq_true rfl) ⟨rfl, rfl⟩ ⟨Nat.le_of_ble_eq_true rfl, Nat.le_of_ble_eq_true rfl⟩ dL_law_1018 (fun r1 v1 w1 p1 => ?_)
  refine J_pop E dL_law_1021 rfl ?_
  refine J_aload_n E dL_law_1022 1 rfl ?_
  refine J_arg 1 1 E hX hbl hbA (by decide) (arg_in 1 hb hL (by unfold Bd; decide)) dL_law_1023 dL_law_1024 dL_law_1025 dL_law_1026 dL_law_1027 ?_
  refine J_callVI E cal_X8_look wd1280 rfl (S_X8.h S8) [.int (xs (x + 1).toNatClampNeg)] [] (ct_X8_look l D dA G v1 w1 p1.1 a8 S8 (xs (x + 1).toNatClampNeg)) rfl rfl (Nat.le_of_ble_eq_true rfl) ⟨rfl, rfl⟩ ⟨Nat.le_of_ble_eq_true rfl, Nat.le_of_ble_eq_true rfl⟩ dL_law_1028 (fun r2 v2 w2 p2 => ?_)
  refine J_pop E dL_law_1031 rfl ?_
  refine J_goto E 1328 dL_law_1032 (by decide) ?_
  exact K v2 w2 p2.1 ((hRel.kp S7 T7.2.choose_spec.2 S8 p1.2.1).kp S7 T7.2.choose_spec.2 S8 p2.2.1)
set_option maxHeartbeats 4000000 in
set_option maxRecDepth 100000 in
theorem lc_29 (X : LwE p s m meth c cells slots D dA G b L xs a7 a8 adK adV) (hOk : Ok G v w) (hRel : Rl G a7 a8 v) (hb : Bd x 0 ((L : Int) - 5)) (hL : L ≤ 2560) (K : ∀ v1 w1, Ok G v1 w1 → Rl G a7 a8 v1 → J p l e room_1 s m args below meth c cells slots Q D dA G (Al s) s.heap 4 v1 w1 (LV b a7 a8 x) 1328 []) : J p l e room_1 s m args below meth c cells slots Q D dA G (Al s) s.heap 4 v w (LV b a7 a8 x) 1035 [] := by
  obtain ⟨E, hX, hbl, T7, T8, hSX, hSR⟩ := X
  have S7 := T7.1
  have S8 := T8.1
  have hbA : ¬ Al s b := Nat.not_le.mpr hbl
  refine J_aload_n E dL_law_1035 2 rfl ?_
  refine J_arg 1 1 E hX hbl hbA (by decide) (arg_in 1 hb hL (by unfold Bd; decide)) dL_law_1036 dL_law_1037 dL_law_1038 dL_law_1039 dL_law_1040 ?_
  refine J_callVI E cal_X7_kinds wd818 rfl (S_X7.h S7) [.int (xs (x + 1).toNatClampNeg)] [] (ct_X7_kinds l D dA G v w hOk a7 S7 (xs (x + 1).toNatClampNeg)) rfl rfl (Nat.le_of_ble_eq_true rfl) ⟨rfl, rfl⟩ ⟨Nat.le_of_ble_eq_true rfl, Nat.le_of_ble_eq_true rfl⟩ dL_law_1041 (fun r1 v1 w1 p1 => ?_)
  refine J_pop E dL_law_1044 rfl ?_
  refine J_aload_n E dL_law_1045 1 rfl ?_
  refine J_arg 1 1 E hX hbl hbA (by decide) (arg_in 1 hb hL (by unfold Bd; decide)) dL_law_1046 dL_law_1047 dL_law_1048 dL_law_1049 dL_law_1050 ?_
  refine J_callVI E cal_X8_kinds wd1276 rfl (S_X8.h S8) [.int (xs (x + 1).toNatClampNeg)] [] (ct_X8_kinds l D dA G v1 w1 p1.1 a8 S8 (xs (x + 1).toNatClampNeg)) rfl rfl (Nat.le_of_ble_eq_true rfl) ⟨rfl, rfl⟩ ⟨Nat.le_of_ble_eq_true rfl, Nat.le_of_ble_eq_true rfl⟩ dL_law_1051 (fun r2 v2 w2 p2 => ?_)
  refine J_pop E dL_law_1054 rfl ?_
  refine J_goto E 1328 dL_law_1055 (by decide) ?_
  exact K v2 w2 p2.1 ((hRel.kp S7 T7.2.choose_spec.2 S8 p1.2.1).kp S7 T7.2.choose_spec.2 S8 p2.2.1)
set_option maxHeartbeats 4000000 in
set_option maxRecDepth 100000 in
theorem lc_30 (X : LwE p s m meth c cells slots D dA G b L xs a7 a8 adK adV) (hOk : Ok G v w) (hRel : Rl G a7 a8 v) (hb : Bd x 0 ((L : Int) - 5)) (hL : L ≤ 2560) (K : ∀ v1 w1, Ok G v1 w1 → Rl G a7 a8 v1 → J p l e room_1 s m args below meth c cells slots Q D dA G (Al s) s.heap 4 v1 w1 (LV b a7 a8 x) 1328 []) : J p l e room_1 s m args below meth c cells slots Q D dA G (Al s) s.heap 4 v w (LV b a7 a8 x) 1058 [] := by
  obtain ⟨E, hX, hbl, T7, T8, hSX, hSR⟩ := X
  have S7 := T7.1
  have S8 := T8.1
  have hbA : ¬ Al s b := Nat.not_le.mpr hbl
  refine J_aload_n E dL_law_1058 2 rfl ?_
  refine J_arg 1 1 E hX hbl hbA (by decide) (arg_in 1 hb hL (by unfold Bd; decide)) dL_law_1059 dL_law_1060 dL_law_1061 dL_law_1062 dL_law_1063 ?_
  refine J_callVI E cal_X7_ask wd830 rfl (S_X7.h S7) [.int (xs (x + 1).toNatClampNeg)] [] (ct_X7_ask l D dA G v w hOk a7 S7 (xs (x + 1).toNatClampNeg)) rfl rfl (Nat.le_of_ble_eq_true rfl) ⟨rfl, rfl⟩ ⟨Nat.le_of_ble_eq_true rfl, Nat.le_of_ble_eq_true rfl⟩ dL_law_1064 (fun r1 v1 w1 p1 => ?_)
  refine J_pop E dL_law_1067 rfl ?_
  refine J_aload_n E dL_law_1068 1 rfl ?_
  refine J_arg 1 1 E hX hbl hbA (by decide) (arg_in 1 hb hL (by unfold Bd; decide)) dL_law_1069 dL_law_1070 dL_law_1071 dL_law_1072 dL_law_1073 ?_
  refine J_callVI E cal_X8_ask wd1288 rfl (S_X8.h S8) [.int (xs (x + 1).toNatClampNeg)] [] (ct_X8_ask l D dA G v1 w1 p1.1 a8 S8 (xs (x + 1).toNatClampNeg)) rfl rfl (Nat.le_of_ble_eq_true rfl) ⟨rfl, rfl⟩ ⟨Nat.le_of_ble_eq_true rfl, Nat.le_of_ble_eq_true rfl⟩ dL_law_1074 (fun r2 v2 w2 p2 => ?_)
  refine J_pop E dL_law_1077 rfl ?_
  refine J_goto E 1328 dL_law_1078 (by decide) ?_
  exact K v2 w2 p2.1 ((hRel.kp S7 T7.2.choose_spec.2 S8 p1.2.1).kp S7 T7.2.choose_spec.2 S8 p2.2.1)
set_option maxHeartbeats 4000000 in
set_option maxRecDepth 100000 in
theorem lc_31 (X : LwE p s m meth c cells slots D dA G b L xs a7 a8 adK adV) (hOk : Ok G v w) (hRel : Rl G a7 a8 v) (hb : Bd x 0 ((L : Int) - 5)) (hL : L ≤ 2560) (K : ∀ v1 w1, Ok G v1 w1 → Rl G a7 a8 v1 → J p l e room_1 s m args below meth c cells slots Q D dA G (Al s) s.heap 4 v1 w1 (LV b a7 a8 x) 1328 []) : J p l e room_1 s m args below meth c cells slots Q D dA G (Al s) s.heap 4 v w (LV b a7 a8 x) 1081 [] := by
  obtain ⟨E, hX, hbl, T7, T8, hSX, hSR⟩ := X
  have S7 := T7.1
  have S8 := T8.1
  have hbA : ¬ Al s b := Nat.not_le.mpr hbl
  refine J_aload_n E dL_law_1081 2 rfl ?_
  refine J_arg 1 1 E hX hbl hbA (by decide) (arg_in 1 hb hL (by unfold Bd; decide)) dL_law_1082 dL_law_1083 dL_law_1084 dL_law_1085 dL_law_1086 ?_
  refine J_arg 2 2 E hX hbl hbA (by decide) (arg_in 2 hb hL (by unfold Bd; decide)) dL_law_1087 dL_law_1088 dL_law_1089 dL_law_1090 dL_law_1091 ?_
  refine J_arg 3 3 E hX hbl hbA (by decide) (arg_in 3 hb hL (by unfold Bd; decide)) dL_law_1092 dL_law_1093 dL_law_1094 dL_law_1095 dL_law_1096 ?_
  refine J_callVI E cal_X7_tries wd838 rfl (S_X7.h S7) [.int (xs (x + 1).toNatClampNeg), .int (xs (x + 2).toNatClampNeg), .int (xs (x + 3).toNatClampNeg)] [] (ct_X7_tries l D dA G v w hOk a7 S7 (xs (x + 1).toNatClampNeg) (xs (x + 2).toNatClampNeg) (xs (x + 3).toNatClampNeg)) rfl rfl (Nat.le_of_ble_eq_true rfl) ⟨rfl, rfl⟩ ⟨Nat.le_of_ble_eq_true rfl, Nat.le_of_ble_eq_true rfl⟩ dL_law_1097 (fun r1 v1 w1 p1 => ?_)
  refine J_pop E dL_law_1100 rfl ?_
  refine J_aload_n E dL_law_1101 1 rfl ?_
  refine J_arg 1 1 E hX hbl hbA (by decide) (arg_in 1 hb hL (by unfold Bd; decide)) dL_law_1102 dL_law_1103 dL_law_1104 dL_law_1105 dL_law_1106 ?_
  refine J_arg 2 2 E hX hbl hbA (by decide) (arg_in 2 hb hL (by unfold Bd; decide)) dL_law_1107 dL_law_1108 dL_law_1109 dL_law_1110 dL_law_1111 ?_
  refine J_arg 3 3 E hX hbl hbA (by decide) (arg_in 3 hb hL (by unfold Bd; decide)) dL_law_1112 dL_law_1113 dL_law_1114 dL_law_1115 dL_law_1116 ?_
  refine J_callVI E cal_X8_tries wd1292 rfl (S_X8.h S8) [.int (xs (x + 1).toNatClampNeg), .int (xs (x + 2).toNatClampNeg), .int (xs (x + 3).toNatClampNeg)] [] (ct_X8_tries l D dA G v1 w1 p1.1 a8 S8 (xs (x + 1).toNatClampNeg) (xs (x + 2).toNatClampNeg) (xs (x + 3).toNatClampNeg)) rfl rfl (Nat.le_of_ble_eq_true rfl) ⟨rfl, rfl⟩ ⟨Nat.le_of_ble_eq_true rfl, Nat.le_of_ble_eq_true rfl⟩ dL_law_1117 (fun r2 v2 w2 p2 => ?_)
  refine J_pop E dL_law_1120 rfl ?_
  refine J_goto E 1328 dL_law_1121 (by decide) ?_
  exact K v2 w2 p2.1 ((hRel.kp S7 T7.2.choose_spec.2 S8 p1.2.1).kp S7 T7.2.choose_spec.2 S8 p2.2.1)
set_option maxHeartbeats 4000000 in
set_option maxRecDepth 100000 in
theorem lc_32 (X : LwE p s m meth c cells slots D dA G b L xs a7 a8 adK adV) (hOk : Ok G v w) (hRel : Rl G a7 a8 v) (hb : Bd x 0 ((L : Int) - 5)) (hL : L ≤ 2560) (K : ∀ v1 w1, Ok G v1 w1 → Rl G a7 a8 v1 → J p l e room_1 s m args below meth c cells slots Q D dA G (Al s) s.heap 4 v1 w1 (LV b a7 a8 x) 1328 []) : J p l e room_1 s m args below meth c cells slots Q D dA G (Al s) s.heap 4 v w (LV b a7 a8 x) 1124 [] := by
  obtain ⟨E, hX, hbl, T7, T8, hSX, hSR⟩ := X
  have S7 := T7.1
  have S8 := T8.1
  have hbA : ¬ Al s b := Nat.not_le.mpr hbl
  refine J_aload_n E dL_law_1124 2 rfl ?_
  refine J_arg 1 1 E hX hbl hbA (by decide) (arg_in 1 hb hL (by unfold Bd; decide)) dL_law_1125 dL_law_1126 dL_law_1127 dL_law_1128 dL_law_1129 ?_
  refine J_arg 2 2 E hX hbl hbA (by decide) (arg_in 2 hb hL (by unfold Bd; decide)) dL_law_1130 dL_law_1131 dL_law_1132 dL_law_1133 dL_law_1134 ?_
  refine J_arg 3 3 E hX hbl hbA (by decide) (arg_in 3 hb hL (by unfold Bd; decide)) dL_law_1135 dL_law_1136 dL_law_1137 dL_law_1138 dL_law_1139 ?_
  refine J_callVI E cal_X7_shout wd848 rfl (S_X7.h S7) [.int (xs (x + 1).toNatClampNeg), .int (xs (x + 2).toNatClampNeg), .int (xs (x + 3).toNatClampNeg)] [] (ct_X7_shout l D dA G v w hOk a7 S7 (xs (x + 1).toNatClampNeg) (xs (x + 2).toNatClampNeg) (xs (x + 3).toNatClampNeg)) rfl rfl (Nat.le_of_ble_eq_true rfl) ⟨rfl, rfl⟩ ⟨Nat.le_of_ble_eq_true rfl, Nat.le_of_ble_eq_true rfl⟩ dL_law_1140 (fun r1 v1 w1 p1 => ?_)
  refine J_pop E dL_law_1143 rfl ?_
  refine J_aload_n E dL_law_1144 1 rfl ?_
  refine J_arg 1 1 E hX hbl hbA (by decide) (arg_in 1 hb hL (by unfold Bd; decide)) dL_law_1145 dL_law_1146 dL_law_1147 dL_law_1148 dL_law_1149 ?_
  refine J_arg 2 2 E hX hbl hbA (by decide) (arg_in 2 hb hL (by unfold Bd; decide)) dL_law_1150 dL_law_1151 dL_law_1152 dL_law_1153 dL_law_1154 ?_
  refine J_arg 3 3 E hX hbl hbA (by decide) (arg_in 3 hb hL (by unfold Bd; decide)) dL_law_1155 dL_law_1156 dL_law_1157 dL_law_1158 dL_law_1159 ?_
  refine J_callVI E cal_X8_shout wd1299 rfl (S_X8.h S8) [.int (xs (x + 1).toNatClampNeg), .int (xs (x + 2).toNatClampNeg), .int (xs (x + 3).toNatClampNeg)] [] (ct_X8_shout l D dA G v1 w1 p1.1 a8 S8 (xs (x + 1).toNatClampNeg) (xs (x + 2).toNatClampNeg) (xs (x + 3).toNatClampNeg)) rfl rfl (Nat.le_of_ble_eq_true rfl) ⟨rfl, rfl⟩ ⟨Nat.le_of_ble_eq_true rfl, Nat.le_of_ble_eq_true rfl⟩ dL_law_1160 (fun r2 v2 w2 p2 => ?_)
  refine J_pop E dL_law_1163 rfl ?_
  refine J_goto E 1328 dL_law_1164 (by decide) ?_
  exact K v2 w2 p2.1 ((hRel.kp S7 T7.2.choose_spec.2 S8 p1.2.1).kp S7 T7.2.choose_spec.2 S8 p2.2.1)
set_option maxHeartbeats 4000000 in
set_option maxRecDepth 100000 in
theorem lc_33 (X : LwE p s m meth c cells slots D dA G b L xs a7 a8 adK adV) (hOk : Ok G v w) (hRel : Rl G a7 a8 v) (hb : Bd x 0 ((L : Int) - 5)) (hL : L ≤ 2560) (K : ∀ v1 w1, Ok G v1 w1 → Rl G a7 a8 v1 → J p l e room_1 s m args below meth c cells slots Q D dA G (Al s) s.heap 4 v1 w1 (LV b a7 a8 x) 1328 []) : J p l e room_1 s m args below meth c cells slots Q D dA G (Al s) s.heap 4 v w (LV b a7 a8 x) 1167 [] := by
  obtain ⟨E, hX, hbl, T7, T8, hSX, hSR⟩ := X
  have S7 := T7.1
  have S8 := T8.1
  have hbA : ¬ Al s b := Nat.not_le.mpr hbl
  refine J_aload_n E dL_law_1167 2 rfl ?_
  refine J_arg 1 1 E hX hbl hbA (by decide) (arg_in 1 hb hL (by unfold Bd; decide)) dL_law_1168 dL_law_1169 dL_law_1170 dL_law_1171 dL_law_1172 ?_
  refine J_arg 2 2 E hX hbl hbA (by decide) (arg_in 2 hb hL (by unfold Bd; decide)) dL_law_1173 dL_law_1174 dL_law_1175 dL_law_1176 dL_law_1177 ?_
  refine J_callVI E cal_X7_centuries wd864 rfl (S_X7.h S7) [.int (xs (x + 1).toNatClampNeg), .int (xs (x + 2).toNatClampNeg)] [] (ct_X7_centuries l D dA G v w hOk a7 S7 (xs (x + 1).toNatClampNeg) (xs (x + 2).toNatClampNeg)) rfl rfl (Nat.le_of_ble_eq_true rfl) ⟨rfl, rfl⟩ ⟨Nat.le_of_ble_eq_true rfl, Nat.le_of_ble_eq_true rfl⟩ dL_law_1178 (fun r1 v1 w1 p1 => ?_)
  refine J_pop E dL_law_1181 rfl ?_
  refine J_aload_n E dL_law_1182 1 rfl ?_
  refine J_arg 1 1 E hX hbl hbA (by decide) (arg_in 1 hb hL (by unfold Bd; decide)) dL_law_1183 dL_law_1184 dL_law_1185 dL_law_1186 dL_law_1187 ?_
  refine J_arg 2 2 E hX hbl hbA (by decide) (arg_in 2 hb hL (by unfold Bd; decide)) dL_law_1188 dL_law_1189 dL_law_1190 dL_law_1191 dL_law_1192 ?_
  refine J_callVI E cal_X8_centuries wd1308 rfl (S_X8.h S8) [.int (xs (x + 1).toNatClampNeg), .int (xs (x + 2).toNatClampNeg)] [] (ct_X8_centuries l D dA G v1 w1 p1.1 a8 S8 (xs (x + 1).toNatClampNeg) (xs (x + 2).toNatClampNeg)) rfl rfl (Nat.le_of_ble_eq_true rfl) ⟨rfl, rfl⟩ ⟨Nat.le_of_ble_eq_true rfl, Nat.le_of_ble_eq_true rfl⟩ dL_law_1193 (fun r2 v2 w2 p2 => ?_)
  refine J_pop E dL_law_1196 rfl ?_
  refine J_goto E 1328 dL_law_1197 (by decide) ?_
  exact K v2 w2 p2.1 ((hRel.kp S7 T7.2.choose_spec.2 S8 p1.2.1).kp S7 T7.2.choose_spec.2 S8 p2.2.1)
set_option maxHeartbeats 4000000 in
set_option maxRecDepth 100000 in
theorem lc_34 (X : LwE p s m meth c cells slots D dA G b L xs a7 a8 adK adV) (hOk : Ok G v w) (hRel : Rl G a7 a8 v) (hb : Bd x 0 ((L : Int) - 5)) (hL : L ≤ 2560) (K : ∀ v1 w1, Ok G v1 w1 → Rl G a7 a8 v1 → J p l e room_1 s m args below meth c cells slots Q D dA G (Al s) s.heap 4 v1 w1 (LV b a7 a8 x) 1328 []) : J p l e room_1 s m args below meth c cells slots Q D dA G (Al s) s.heap 4 v w (LV b a7 a8 x) 1200 [] := by
  obtain ⟨E, hX, hbl, T7, T8, hSX, hSR⟩ := X
  have S7 := T7.1
  have S8 := T8.1
  have hbA : ¬ Al s b := Nat.not_le.mpr hbl
  refine J_aload_n E dL_law_1200 2 rfl ?_
  refine J_arg 1 1 E hX hbl hbA (by decide) (arg_in 1 hb hL (by unfold Bd; decide)) dL_law_1201 dL_law_1202 dL_law_1203 dL_law_1204 dL_law_1205 ?_
  refine J_callVL E cal_X7_part wd880 rfl (S_X7.h S7) [.int (xs (x + 1).toNatClampNeg)] [] (ct_X7_part l D dA G v w hOk a7 S7 (xs (x + 1).toNatClampNeg)) rfl rfl (Nat.le_of_ble_eq_true rfl) ⟨rfl, rfl⟩ ⟨Nat.le_of_ble_eq_true rfl, Nat.le_of_ble_eq_true rfl⟩ dL_law_1206 (fun r1 v1 w1 p1 => ?_)
  refine J_pop2 E dL_law_1209 rfl ?_
  refine J_aload_n E dL_law_1210 1 rfl ?_
  refine J_arg 1 1 E hX hbl hbA (by decide) (arg_in 1 hb hL (by unfold Bd; decide)) dL_law_1211 dL_law_1212 dL_law_1213 dL_law_1214 dL_law_1215 ?_
  refine J_callVL E cal_X8_part wd1319 rfl (S_X8.h S8) [.int (xs (x + 1).toNatClampNeg)] [] (ct_X8_part l D dA G v1 w1 p1.1 a8 S8 (xs (x + 1).toNatClampNeg)) rfl rfl (Nat.le_of_ble_eq_true rfl) ⟨rfl, rfl⟩ ⟨Nat.le_of_ble_eq_true rfl, Nat.le_of_ble_eq_true rfl⟩ dL_law_1216 (fun r2 v2 w2 p2 => ?_)
  refine J_pop2 E dL_law_1219 rfl ?_
  refine J_goto E 1328 dL_law_1220 (by decide) ?_
  exact K v2 w2 p2.1 ((hRel.kp S7 T7.2.choose_spec.2 S8 p1.2.1).kp S7 T7.2.choose_spec.2 S8 p2.2.1)
set_option maxHeartbeats 4000000 in
set_option maxRecDepth 100000 in
theorem lc_35 (X : LwE p s m meth c cells slots D dA G b L xs a7 a8 adK adV) (hOk : Ok G v w) (hRel : Rl G a7 a8 v) (hb : Bd x 0 ((L : Int) - 5)) (hL : L ≤ 2560) (K : ∀ v1 w1, Ok G v1 w1 → Rl G a7 a8 v1 → J p l e room_1 s m args below meth c cells slots Q D dA G (Al s) s.heap 4 v1 w1 (LV b a7 a8 x) 1328 []) : J p l e room_1 s m args below meth c cells slots Q D dA G (Al s) s.heap 4 v w (LV b a7 a8 x) 1223 [] := by
  obtain ⟨E, hX, hbl, T7, T8, hSX, hSR⟩ := X
  have S7 := T7.1
  have S8 := T8.1
  have hbA : ¬ Al s b := Nat.not_le.mpr hbl
  refine J_aload_n E dL_law_1223 2 rfl ?_
  refine J_arg 1 1 E hX hbl hbA (by decide) (arg_in 1 hb hL (by unfold Bd; decide)) dL_law_1224 dL_law_1225 dL_law_1226 dL_law_1227 dL_law_1228 ?_
  refine J_callVI E cal_X7_image wd884 rfl (S_X7.h S7) [.int (xs (x + 1).toNatClampNeg)] [] (ct_X7_image l D dA G v w hOk a7 S7 (xs (x + 1).toNatClampNeg)) rfl rfl (Nat.le_of_ble_eq_true rfl) ⟨rfl, rfl⟩ ⟨Nat.le_of_ble_eq_true rfl, Nat.le_of_ble_eq_true rfl⟩ dL_law_1229 (fun r1 v1 w1 p1 => ?_)
  refine J_pop E dL_law_1232 rfl ?_
  refine J_aload_n E dL_law_1233 1 rfl ?_
  refine J_arg 1 1 E hX hbl hbA (by decide) (arg_in 1 hb hL (by unfold Bd; decide)) dL_law_1234 dL_law_1235 dL_law_1236 dL_law_1237 dL_law_1238 ?_
  refine J_callVI E cal_X8_image wd1323 rfl (S_X8.h S8) [.int (xs (x + 1).toNatClampNeg)] [] (ct_X8_image l D dA G v1 w1 p1.1 a8 S8 (xs (x + 1).toNatClampNeg)) rfl rfl (Nat.le_of_ble_eq_true rfl) ⟨rfl, rfl⟩ ⟨Nat.le_of_ble_eq_true rfl, Nat.le_of_ble_eq_true rfl⟩ dL_law_1239 (fun r2 v2 w2 p2 => ?_)
  refine J_pop E dL_law_1242 rfl ?_
  refine J_goto E 1328 dL_law_1243 (by decide) ?_
  exact K v2 w2 p2.1 (Rl.image S7 T7.2.choose_spec.2 S8 hOk hRel p1.2.2.2.1 p1.2.2.2.2 p2.2.2.2.1 p2.2.2.2.2 p2.1).2
set_option maxHeartbeats 4000000 in
set_option maxRecDepth 100000 in
theorem lc_36 (X : LwE p s m meth c cells slots D dA G b L xs a7 a8 adK adV) (hOk : Ok G v w) (hRel : Rl G a7 a8 v) (hb : Bd x 0 ((L : Int) - 5)) (hL : L ≤ 2560) (K : ∀ v1 w1, Ok G v1 w1 → Rl G a7 a8 v1 → J p l e room_1 s m args below meth c cells slots Q D dA G (Al s) s.heap 4 v1 w1 (LV b a7 a8 x) 1328 []) : J p l e room_1 s m args below meth c cells slots Q D dA G (Al s) s.heap 4 v w (LV b a7 a8 x) 1246 [] := by
  obtain ⟨E, hX, hbl, T7, T8, hSX, hSR⟩ := X
  have S7 := T7.1
  have S8 := T8.1
  have hbA : ¬ Al s b := Nat.not_le.mpr hbl
  refine J_aload_n E dL_law_1246 2 rfl ?_
  refine J_arg 1 1 E hX hbl hbA (by decide) (arg_in 1 hb hL (by unfold Bd; decide)) dL_law_1247 dL_law_1248 dL_law_1249 dL_law_1250 dL_law_1251 ?_
  refine J_callVI E cal_X7_from wd888 rfl (S_X7.h S7) [.int (xs (x + 1).toNatClampNeg)] [] (ct_X7_from l D dA G v w hOk a7 S7 (xs (x + 1).toNatClampNeg)) rfl rfl (Nat.le_of_ble_eq_true rfl) ⟨rfl, rfl⟩ ⟨Nat.le_of_ble_eq_true rfl, Nat.le_of_ble_eq_true rfl⟩ dL_law_1252 (fun r1 v1 w1 p1 => ?_)
  refine J_pop E dL_law_1255 rfl ?_
  refine J_aload_n E dL_law_1256 1 rfl ?_
  refine J_arg 1 1 E hX hbl hbA (by decide) (arg_in 1 hb hL (by unfold Bd; decide)) dL_law_1257 dL_law_1258 dL_law_1259 dL_law_1260 dL_law_1261 ?_
  refine J_callVI E cal_X8_from wd1327 rfl (S_X8.h S8) [.int (xs (x + 1).toNatClampNeg)] [] (ct_X8_from l D dA G v1 w1 p1.1 a8 S8 (xs (x + 1).toNatClampNeg)) rfl rfl (Nat.le_of_ble_eq_true rfl) ⟨rfl, rfl⟩ ⟨Nat.le_of_ble_eq_true rfl, Nat.le_of_ble_eq_true rfl⟩ dL_law_1262 (fun r2 v2 w2 p2 => ?_)
  refine J_pop E dL_law_1265 rfl ?_
  refine J_goto E 1328 dL_law_1266 (by decide) ?_
  exact K v2 w2 p2.1 (Rl.from S7 T7.2.choose_spec.2 S8 hOk hRel p1.2.2.2.1 p1.2.2.2.2 p2.2.2.2.1 p2.2.2.2.2 p2.1).2
set_option maxHeartbeats 4000000 in
set_option maxRecDepth 100000 in
theorem lc_37 (X : LwE p s m meth c cells slots D dA G b L xs a7 a8 adK adV) (hOk : Ok G v w) (hRel : Rl G a7 a8 v) (hb : Bd x 0 ((L : Int) - 5)) (hL : L ≤ 2560) (K : ∀ v1 w1, Ok G v1 w1 → Rl G a7 a8 v1 → J p l e room_1 s m args below meth c cells slots Q D dA G (Al s) s.heap 4 v1 w1 (LV b a7 a8 x) 1328 []) : J p l e room_1 s m args below meth c cells slots Q D dA G (Al s) s.heap 4 v w (LV b a7 a8 x) 1269 [] := by
  obtain ⟨E, hX, hbl, T7, T8, hSX, hSR⟩ := X
  have S7 := T7.1
  have S8 := T8.1
  have hbA : ¬ Al s b := Nat.not_le.mpr hbl
  refine J_aload_n E dL_law_1269 2 rfl ?_
  refine J_arg 1 1 E hX hbl hbA (by decide) (arg_in 1 hb hL (by unfold Bd; decide)) dL_law_1270 dL_law_1271 dL_law_1272 dL_law_1273 dL_law_1274 ?_
  refine J_callVI E cal_X7_status wd892 rfl (S_X7.h S7) [.int (xs (x + 1).toNatClampNeg)] [] (ct_X7_status l D dA G v w hOk a7 S7 (xs (x + 1).toNatClampNeg)) rfl rfl (Nat.le_of_ble_eq_true rfl) ⟨rfl, rfl⟩ ⟨Nat.le_of_ble_eq_true rfl, Nat.le_of_ble_eq_true rfl⟩ dL_law_1275 (fun r1 v1 w1 p1 => ?_)
  refine J_pop E dL_law_1278 rfl ?_
  refine J_aload_n E dL_law_1279 1 rfl ?_
  refine J_arg 1 1 E hX hbl hbA (by decide) (arg_in 1 hb hL (by unfold Bd; decide)) dL_law_1280 dL_law_1281 dL_law_1282 dL_law_1283 dL_law_1284 ?_
  refine J_callVI E cal_X8_status wd1331 rfl (S_X8.h S8) [.int (xs (x + 1).toNatClampNeg)] [] (ct_X8_status l D dA G v1 w1 p1.1 a8 S8 (xs (x + 1).toNatClampNeg)) rfl rfl (Nat.le_of_ble_eq_true rfl) ⟨rfl, rfl⟩ ⟨Nat.le_of_ble_eq_true rfl, Nat.le_of_ble_eq_true rfl⟩ dL_law_1285 (fun r2 v2 w2 p2 => ?_)
  refine J_pop E dL_law_1288 rfl ?_
  refine J_goto E 1328 dL_law_1289 (by decide) ?_
  exact K v2 w2 p2.1 ((hRel.kp S7 T7.2.choose_spec.2 S8 p1.2.1).kp S7 T7.2.choose_spec.2 S8 p2.2.1)
set_option maxHeartbeats 4000000 in
set_option maxRecDepth 100000 in
theorem lc_38 (X : LwE p s m meth c cells slots D dA G b L xs a7 a8 adK adV) (hOk : Ok G v w) (hRel : Rl G a7 a8 v) (hb : Bd x 0 ((L : Int) - 5)) (hL : L ≤ 2560) (K : ∀ v1 w1, Ok G v1 w1 → Rl G a7 a8 v1 → J p l e room_1 s m args below meth c cells slots Q D dA G (Al s) s.heap 4 v1 w1 (LV b a7 a8 x) 1328 []) : J p l e room_1 s m args below meth c cells slots Q D dA G (Al s) s.heap 4 v w (LV b a7 a8 x) 1292 [] := by
  obtain ⟨E, hX, hbl, T7, T8, hSX, hSR⟩ := X
  have S7 := T7.1
  have S8 := T8.1
  have hbA : ¬ Al s b := Nat.not_le.mpr hbl
  refine J_aload_n E dL_law_1292 2 rfl ?_
  refine J_arg 1 1 E hX hbl hbA (by decide) (arg_in 1 hb hL (by unfold Bd; decide)) dL_law_1293 dL_law_1294 dL_law_1295 dL_law_1296 dL_law_1297 ?_
  refine J_callVI E cal_X7_count wd896 rfl (S_X7.h S7) [.int (xs (x + 1).toNatClampNeg)] [] (ct_X7_count l D dA G v w hOk a7 S7 (xs (x + 1).toNatClampNeg)) rfl rfl (Nat.le_of_ble_eq_true rfl) ⟨rfl, rfl⟩ ⟨Nat.le_of_ble_eq_true rfl, Nat.le_of_ble_eq_true rfl⟩ dL_law_1298 (fun r1 v1 w1 p1 => ?_)
  refine J_pop E dL_law_1301 rfl ?_
  refine J_aload_n E dL_law_1302 1 rfl ?_
  refine J_arg 1 1 E hX hbl hbA (by decide) (arg_in 1 hb hL (by unfold Bd; decide)) dL_law_1303 dL_law_1304 dL_law_1305 dL_law_1306 dL_law_1307 ?_
  refine J_callVI E cal_X8_count wd1335 rfl (S_X8.h S8) [.int (xs (x + 1).toNatClampNeg)] [] (ct_X8_count l D dA G v1 w1 p1.1 a8 S8 (xs (x + 1).toNatClampNeg)) rfl rfl (Nat.le_of_ble_eq_true rfl) ⟨rfl, rfl⟩ ⟨Nat.le_of_ble_eq_true rfl, Nat.le_of_ble_eq_true rfl⟩ dL_law_1308 (fun r2 v2 w2 p2 => ?_)
  refine J_pop E dL_law_1311 rfl ?_
  refine J_goto E 1328 dL_law_1312 (by decide) ?_
  exact K v2 w2 p2.1 ((hRel.kp S7 T7.2.choose_spec.2 S8 p1.2.1).kp S7 T7.2.choose_spec.2 S8 p2.2.1)
set_option maxHeartbeats 4000000 in
set_option maxRecDepth 100000 in
theorem lc_39 (X : LwE p s m meth c cells slots D dA G b L xs a7 a8 adK adV) (hOk : Ok G v w) (hRel : Rl G a7 a8 v) (hb : Bd x 0 ((L : Int) - 5)) (hL : L ≤ 2560) (K : ∀ v1 w1, Ok G v1 w1 → Rl G a7 a8 v1 → J p l e room_1 s m args below meth c cells slots Q D dA G (Al s) s.heap 4 v1 w1 (LV b a7 a8 x) 1328 []) : J p l e room_1 s m args below meth c cells slots Q D dA G (Al s) s.heap 4 v w (LV b a7 a8 x) 1315 [] := by
  obtain ⟨E, hX, hbl, T7, T8, hSX, hSR⟩ := X
  have S7 := T7.1
  have S8 := T8.1
  have hbA : ¬ Al s b := Nat.not_le.mpr hbl
  refine J_aload_n E dL_law_1315 2 rfl ?_
  refine J_callVL E cal_X7_digest wd908 rfl (S_X7.h S7) [] [] (ct_X7_digest l D dA G v w hOk a7 S7 ) rfl rfl (Nat.le_of_ble_eq_true rfl) ⟨rfl, rfl⟩ ⟨Nat.le_of_ble_eq_true rfl, Nat.le_of_ble_eq_true rfl⟩ dL_law_1316 (fun r1 v1 w1 p1 => ?_)
  refine J_pop2 E dL_law_1319 rfl ?_
  refine J_aload_n E dL_law_1320 1 rfl ?_
  refine J_callVL E cal_X8_digest wd1343 rfl (S_X8.h S8) [] [] (ct_X8_digest l D dA G v1 w1 (hOk.same p1.1 p1.2.1) a8 S8 ) rfl rfl (Nat.le_of_ble_eq_true rfl) ⟨rfl, rfl⟩ ⟨Nat.le_of_ble_eq_true rfl, Nat.le_of_ble_eq_true rfl⟩ dL_law_1321 (fun r2 v2 w2 p2 => ?_)
  refine J_pop2 E dL_law_1324 rfl ?_
  refine J_goto E 1328 dL_law_1325 (by decide) ?_
  exact K v2 w2 ((hOk.same p1.1 p1.2.1).same p2.1 p2.2.1) ((hRel.same p1.1).same p2.1)
end LC
