/-! the law's calls, one by one -/
def fL_c0 (xs : Nat → Int32) (L N : Nat) (rec1 : Int32 → sw_St → Option (Int32 × sw_St)) (i : Int32) (S : sw_St) : Option (Int32 × sw_St) :=
  sw_gd (sw_in (i + (1 : Int32)) L) (sw_gd (sw_in (i + (2 : Int32)) L) (sw_bd (fX8_sword N (xs (i + (1 : Int32)).toNatClampNeg) (xs (i + (2 : Int32)).toNatClampNeg) S) (fun r1 S1 => (sw_gd (sw_in (i + (1 : Int32)) L) (sw_gd (sw_in (i + (2 : Int32)) L) (sw_bd (fX9_sword N (xs (i + (1 : Int32)).toNatClampNeg) (xs (i + (2 : Int32)).toNatClampNeg) S1) (fun r2 S2 => (if r1 = r2 then (rec1 (i + (6 : Int32)) S2) else (some ((0 : Int32), S2))))))))))
theorem hL_c0 {G : sw_G} {b L N : Nat} {xs : Nat → Int32} {rec1 : Int32 → sw_St → Option (Int32 × sw_St)} (hrec1 : ∀ (i : Int32) (S : sw_St), sw_Rn G RL cL_law 4 ret room_1 128 sw_SL (sw_Zl G b L xs) 18 [some (.ref b), some (sw_vr G 0), some (sw_vr G 105), some (.int i)] [] S (rec1 i S)) (i : Int32) (S : sw_St) : sw_Rn G RL cL_law 4 ret room_1 128 sw_SL (sw_Zl G b L xs) 208 [some (.ref b), some (sw_vr G 0), some (sw_vr G 105), some (.int i)] [] S (fL_c0 xs L N rec1 i S) := by
  unfold fL_c0
  refine sw_ald_4_1 (np := 209) dL_law_208 rfl ?_
  refine sw_ald_4_0 (np := 210) dL_law_209 rfl ?_
  refine sw_ild_4_3 (np := 211) dL_law_210 rfl ?_
  refine sw_iconst (np := 212) dL_law_211 sw_ic_1 rfl ?_
  refine sw_iadd (np := 213) dL_law_212 rfl ?_
  refine sw_sld (np := 214) dL_law_213 rfl ?_
  refine sw_ald_4_0 (np := 215) dL_law_214 rfl ?_
  refine sw_ild_4_3 (np := 216) dL_law_215 rfl ?_
  refine sw_iconst (np := 217) dL_law_216 sw_ic_2 rfl ?_
  refine sw_iadd (np := 218) dL_law_217 rfl ?_
  refine sw_sld (np := 219) dL_law_218 rfl ?_
  refine sw_cV2i (np := 222) (hX8_sword (d := 1000) (Nat.le_of_ble_eq_true rfl) ) sw_mv_X8_sword sw_k_0 sw_wl_RL_13 dL_law_219 (sw_fit_l (by decide)) (Nat.le_of_ble_eq_true rfl) rfl (fun r1 S1 => ?_)
  refine sw_ald_4_2 (np := 223) dL_law_222 rfl ?_
  refine sw_ald_4_0 (np := 224) dL_law_223 rfl ?_
  refine sw_ild_4_3 (np := 225) dL_law_224 rfl ?_
  refine sw_iconst (np := 226) dL_law_225 sw_ic_1 rfl ?_
  refine sw_iadd (np := 227) dL_law_226 rfl ?_
  refine sw_sld (np := 228) dL_law_227 rfl ?_
  refine sw_ald_4_0 (np := 229) dL_law_228 rfl ?_
  refine sw_ild_4_3 (np := 230) dL_law_229 rfl ?_
  refine sw_iconst (np := 231) dL_law_230 sw_ic_2 rfl ?_
  refine sw_iadd (np := 232) dL_law_231 rfl ?_
  refine sw_sld (np := 233) dL_law_232 rfl ?_
  refine sw_cV2i (np := 236) (hX9_sword (d := 1000) (Nat.le_of_ble_eq_true rfl) ) sw_mv_X9_sword sw_k_105 sw_wl_RL_17 dL_law_233 (sw_fit_l (by decide)) (Nat.le_of_ble_eq_true rfl) rfl (fun r2 S2 => ?_)
  refine sw_icmp_eq (np := 239) (tp := 1459) dL_law_236 rfl rfl ?_ ?_
  · refine sw_inc_4_3 (np := 1462) dL_law_1459 sw_ic_6 rfl rfl ?_
    refine sw_goto (tp := 18) dL_law_1462 rfl ?_
    exact hrec1 _ _
  · refine sw_iconst (np := 240) dL_law_239 sw_ic_0 rfl ?_
    exact sw_ret0 dL_law_240
def fL_c1 (xs : Nat → Int32) (L N : Nat) (rec1 : Int32 → sw_St → Option (Int32 × sw_St)) (i : Int32) (S : sw_St) : Option (Int32 × sw_St) :=
  sw_gd (sw_in (i + (1 : Int32)) L) (sw_gd (sw_in (i + (2 : Int32)) L) (sw_gd (sw_in (i + (3 : Int32)) L) (sw_bd (fX8_swords N (xs (i + (1 : Int32)).toNatClampNeg) (xs (i + (2 : Int32)).toNatClampNeg) (xs (i + (3 : Int32)).toNatClampNeg) S) (fun r1 S1 => (sw_gd (sw_in (i + (1 : Int32)) L) (sw_gd (sw_in (i + (2 : Int32)) L) (sw_gd (sw_in (i + (3 : Int32)) L) (sw_bd (fX9_swords N (xs (i + (1 : Int32)).toNatClampNeg) (xs (i + (2 : Int32)).toNatClampNeg) (xs (i + (3 : Int32)).toNatClampNeg) S1) (fun r2 S2 => (if r1 = r2 then (rec1 (i + (6 : Int32)) S2) else (some ((0 : Int32), S2))))))))))))
theorem hL_c1 {G : sw_G} {b L N : Nat} {xs : Nat → Int32} {rec1 : Int32 → sw_St → Option (Int32 × sw_St)} (hrec1 : ∀ (i : Int32) (S : sw_St), sw_Rn G RL cL_law 4 ret room_1 128 sw_SL (sw_Zl G b L xs) 18 [some (.ref b), some (sw_vr G 0), some (sw_vr G 105), some (.int i)] [] S (rec1 i S)) (i : Int32) (S : sw_St) : sw_Rn G RL cL_law 4 ret room_1 128 sw_SL (sw_Zl G b L xs) 241 [some (.ref b), some (sw_vr G 0), some (sw_vr G 105), some (.int i)] [] S (fL_c1 xs L N rec1 i S) := by
  unfold fL_c1
  refine sw_ald_4_1 (np := 242) dL_law_241 rfl ?_
  refine sw_ald_4_0 (np := 243) dL_law_242 rfl ?_
  refine sw_ild_4_3 (np := 244) dL_law_243 rfl ?_
  refine sw_iconst (np := 245) dL_law_244 sw_ic_1 rfl ?_
  refine sw_iadd (np := 246) dL_law_245 rfl ?_
  refine sw_sld (np := 247) dL_law_246 rfl ?_
  refine sw_ald_4_0 (np := 248) dL_law_247 rfl ?_
  refine sw_ild_4_3 (np := 249) dL_law_248 rfl ?_
  refine sw_iconst (np := 250) dL_law_249 sw_ic_2 rfl ?_
  refine sw_iadd (np := 251) dL_law_250 rfl ?_
  refine sw_sld (np := 252) dL_law_251 rfl ?_
  refine sw_ald_4_0 (np := 253) dL_law_252 rfl ?_
  refine sw_ild_4_3 (np := 254) dL_law_253 rfl ?_
  refine sw_iconst (np := 255) dL_law_254 sw_ic_3 rfl ?_
  refine sw_iadd (np := 256) dL_law_255 rfl ?_
  refine sw_sld (np := 257) dL_law_256 rfl ?_
  refine sw_cV3i (np := 260) (hX8_swords (d := 1000) (Nat.le_of_ble_eq_true rfl) ) sw_mv_X8_swords sw_k_0 sw_wl_RL_18 dL_law_257 (sw_fit_l (by decide)) (Nat.le_of_ble_eq_true rfl) rfl (fun r1 S1 => ?_)
  refine sw_ald_4_2 (np := 261) dL_law_260 rfl ?_
  refine sw_ald_4_0 (np := 262) dL_law_261 rfl ?_
  refine sw_ild_4_3 (np := 263) dL_law_262 rfl ?_
  refine sw_iconst (np := 264) dL_law_263 sw_ic_1 rfl ?_
  refine sw_iadd (np := 265) dL_law_264 rfl ?_
  refine sw_sld (np := 266) dL_law_265 rfl ?_
  refine sw_ald_4_0 (np := 267) dL_law_266 rfl ?_
  refine sw_ild_4_3 (np := 268) dL_law_267 rfl ?_
  refine sw_iconst (np := 269) dL_law_268 sw_ic_2 rfl ?_
  refine sw_iadd (np := 270) dL_law_269 rfl ?_
  refine sw_sld (np := 271) dL_law_270 rfl ?_
  refine sw_ald_4_0 (np := 272) dL_law_271 rfl ?_
  refine sw_ild_4_3 (np := 273) dL_law_272 rfl ?_
  refine sw_iconst (np := 274) dL_law_273 sw_ic_3 rfl ?_
  refine sw_iadd (np := 275) dL_law_274 rfl ?_
  refine sw_sld (np := 276) dL_law_275 rfl ?_
  refine sw_cV3i (np := 279) (hX9_swords (d := 1000) (Nat.le_of_ble_eq_true rfl) ) sw_mv_X9_swords sw_k_105 sw_wl_RL_22 dL_law_276 (sw_fit_l (by decide)) (Nat.le_of_ble_eq_true rfl) rfl (fun r2 S2 => ?_)
  refine sw_icmp_eq (np := 282) (tp := 1459) dL_law_279 rfl rfl ?_ ?_
  · refine sw_inc_4_3 (np := 1462) dL_law_1459 sw_ic_6 rfl rfl ?_
    refine sw_goto (tp := 18) dL_law_1462 rfl ?_
    exact hrec1 _ _
  · refine sw_iconst (np := 283) dL_law_282 sw_ic_0 rfl ?_
    exact sw_ret0 dL_law_283
def fL_c2 (xs : Nat → Int32) (L N : Nat) (rec1 : Int32 → sw_St → Option (Int32 × sw_St)) (i : Int32) (S : sw_St) : Option (Int32 × sw_St) :=
  sw_gd (sw_in (i + (1 : Int32)) L) (sw_gd (sw_in (i + (2 : Int32)) L) (sw_gd (sw_in (i + (3 : Int32)) L) (sw_bd (fX8_mend N (xs (i + (1 : Int32)).toNatClampNeg) (xs (i + (2 : Int32)).toNatClampNeg) (xs (i + (3 : Int32)).toNatClampNeg) S) (fun r1 S1 => (sw_gd (sw_in (i + (1 : Int32)) L) (sw_gd (sw_in (i + (2 : Int32)) L) (sw_gd (sw_in (i + (3 : Int32)) L) (sw_bd (fX9_mend N (xs (i + (1 : Int32)).toNatClampNeg) (xs (i + (2 : Int32)).toNatClampNeg) (xs (i + (3 : Int32)).toNatClampNeg) S1) (fun r2 S2 => (if r1 = r2 then (rec1 (i + (6 : Int32)) S2) else (some ((0 : Int32), S2))))))))))))
theorem hL_c2 {G : sw_G} {b L N : Nat} {xs : Nat → Int32} {rec1 : Int32 → sw_St → Option (Int32 × sw_St)} (hrec1 : ∀ (i : Int32) (S : sw_St), sw_Rn G RL cL_law 4 ret room_1 128 sw_SL (sw_Zl G b L xs) 18 [some (.ref b), some (sw_vr G 0), some (sw_vr G 105), some (.int i)] [] S (rec1 i S)) (i : Int32) (S : sw_St) : sw_Rn G RL cL_law 4 ret room_1 128 sw_SL (sw_Zl G b L xs) 284 [some (.ref b), some (sw_vr G 0), some (sw_vr G 105), some (.int i)] [] S (fL_c2 xs L N rec1 i S) := by
  unfold fL_c2
  refine sw_ald_4_1 (np := 285) dL_law_284 rfl ?_
  refine sw_ald_4_0 (np := 286) dL_law_285 rfl ?_
  refine sw_ild_4_3 (np := 287) dL_law_286 rfl ?_
  refine sw_iconst (np := 288) dL_law_287 sw_ic_1 rfl ?_
  refine sw_iadd (np := 289) dL_law_288 rfl ?_
  refine sw_sld (np := 290) dL_law_289 rfl ?_
  refine sw_ald_4_0 (np := 291) dL_law_290 rfl ?_
  refine sw_ild_4_3 (np := 292) dL_law_291 rfl ?_
  refine sw_iconst (np := 293) dL_law_292 sw_ic_2 rfl ?_
  refine sw_iadd (np := 294) dL_law_293 rfl ?_
  refine sw_sld (np := 295) dL_law_294 rfl ?_
  refine sw_ald_4_0 (np := 296) dL_law_295 rfl ?_
  refine sw_ild_4_3 (np := 297) dL_law_296 rfl ?_
  refine sw_iconst (np := 298) dL_law_297 sw_ic_3 rfl ?_
  refine sw_iadd (np := 299) dL_law_298 rfl ?_
  refine sw_sld (np := 300) dL_law_299 rfl ?_
  refine sw_cV3i (np := 303) (hX8_mend (d := 1000) (Nat.le_of_ble_eq_true rfl) ) sw_mv_X8_mend sw_k_0 sw_wl_RL_23 dL_law_300 (sw_fit_l (by decide)) (Nat.le_of_ble_eq_true rfl) rfl (fun r1 S1 => ?_)
  refine sw_ald_4_2 (np := 304) dL_law_303 rfl ?_
  refine sw_ald_4_0 (np := 305) dL_law_304 rfl ?_
  refine sw_ild_4_3 (np := 306) dL_law_305 rfl ?_
  refine sw_iconst (np := 307) dL_law_306 sw_ic_1 rfl ?_
  refine sw_iadd (np := 308) dL_law_307 rfl ?_
  refine sw_sld (np := 309) dL_law_308 rfl ?_
  refine sw_ald_4_0 (np := 310) dL_law_309 rfl ?_
  refine sw_ild_4_3 (np := 311) dL_law_310 rfl ?_
  refine sw_iconst (np := 312) dL_law_311 sw_ic_2 rfl ?_
  refine sw_iadd (np := 313) dL_law_312 rfl ?_
  refine sw_sld (np := 314) dL_law_313 rfl ?_
  refine sw_ald_4_0 (np := 315) dL_law_314 rfl ?_
  refine sw_ild_4_3 (np := 316) dL_law_315 rfl ?_
  refine sw_iconst (np := 317) dL_law_316 sw_ic_3 rfl ?_
  refine sw_iadd (np := 318) dL_law_317 rfl ?_
  refine sw_sld (np := 319) dL_law_318 rfl ?_
  refine sw_cV3i (np := 322) (hX9_mend (d := 1000) (Nat.le_of_ble_eq_true rfl) ) sw_mv_X9_mend sw_k_105 sw_wl_RL_26 dL_law_319 (sw_fit_l (by decide)) (Nat.le_of_ble_eq_true rfl) rfl (fun r2 S2 => ?_)
  refine sw_icmp_eq (np := 325) (tp := 1459) dL_law_322 rfl rfl ?_ ?_
  · refine sw_inc_4_3 (np := 1462) dL_law_1459 sw_ic_6 rfl rfl ?_
    refine sw_goto (tp := 18) dL_law_1462 rfl ?_
    exact hrec1 _ _
  · refine sw_iconst (np := 326) dL_law_325 sw_ic_0 rfl ?_
    exact sw_ret0 dL_law_326
def fL_c3 (xs : Nat → Int32) (L N : Nat) (rec1 : Int32 → sw_St → Option (Int32 × sw_St)) (i : Int32) (S : sw_St) : Option (Int32 × sw_St) :=
  sw_gd (sw_in (i + (1 : Int32)) L) (sw_gd (sw_in (i + (2 : Int32)) L) (sw_bd (fX8_of N (xs (i + (1 : Int32)).toNatClampNeg) (xs (i + (2 : Int32)).toNatClampNeg) S) (fun r1 S1 => (sw_gd (sw_in (i + (1 : Int32)) L) (sw_gd (sw_in (i + (2 : Int32)) L) (sw_bd (fX9_of N (xs (i + (1 : Int32)).toNatClampNeg) (xs (i + (2 : Int32)).toNatClampNeg) S1) (fun r2 S2 => (if r1 = r2 then (rec1 (i + (6 : Int32)) S2) else (some ((0 : Int32), S2))))))))))
theorem hL_c3 {G : sw_G} {b L N : Nat} {xs : Nat → Int32} {rec1 : Int32 → sw_St → Option (Int32 × sw_St)} (hrec1 : ∀ (i : Int32) (S : sw_St), sw_Rn G RL cL_law 4 ret room_1 128 sw_SL (sw_Zl G b L xs) 18 [some (.ref b), some (sw_vr G 0), some (sw_vr G 105), some (.int i)] [] S (rec1 i S)) (i : Int32) (S : sw_St) : sw_Rn G RL cL_law 4 ret room_1 128 sw_SL (sw_Zl G b L xs) 327 [some (.ref b), some (sw_vr G 0), some (sw_vr G 105), some (.int i)] [] S (fL_c3 xs L N rec1 i S) := by
  unfold fL_c3
  refine sw_ald_4_1 (np := 328) dL_law_327 rfl ?_
  refine sw_ald_4_0 (np := 329) dL_law_328 rfl ?_
  refine sw_ild_4_3 (np := 330) dL_law_329 rfl ?_
  refine sw_iconst (np := 331) dL_law_330 sw_ic_1 rfl ?_
  refine sw_iadd (np := 332) dL_law_331 rfl ?_
  refine sw_sld (np := 333) dL_law_332 rfl ?_
  refine sw_ald_4_0 (np := 334) dL_law_333 rfl ?_
  refine sw_ild_4_3 (np := 335) dL_law_334 rfl ?_
  refine sw_iconst (np := 336) dL_law_335 sw_ic_2 rfl ?_
  refine sw_iadd (np := 337) dL_law_336 rfl ?_
  refine sw_sld (np := 338) dL_law_337 rfl ?_
  refine sw_cV2i (np := 341) (hX8_of (d := 1000) (Nat.le_of_ble_eq_true rfl) ) sw_mv_X8_of sw_k_0 sw_wl_RL_27 dL_law_338 (sw_fit_l (by decide)) (Nat.le_of_ble_eq_true rfl) rfl (fun r1 S1 => ?_)
  refine sw_ald_4_2 (np := 342) dL_law_341 rfl ?_
  refine sw_ald_4_0 (np := 343) dL_law_342 rfl ?_
  refine sw_ild_4_3 (np := 344) dL_law_343 rfl ?_
  refine sw_iconst (np := 345) dL_law_344 sw_ic_1 rfl ?_
  refine sw_iadd (np := 346) dL_law_345 rfl ?_
  refine sw_sld (np := 347) dL_law_346 rfl ?_
  refine sw_ald_4_0 (np := 348) dL_law_347 rfl ?_
  refine sw_ild_4_3 (np := 349) dL_law_348 rfl ?_
  refine sw_iconst (np := 350) dL_law_349 sw_ic_2 rfl ?_
  refine sw_iadd (np := 351) dL_law_350 rfl ?_
  refine sw_sld (np := 352) dL_law_351 rfl ?_
  refine sw_cV2i (np := 355) (hX9_of (d := 1000) (Nat.le_of_ble_eq_true rfl) ) sw_mv_X9_of sw_k_105 sw_wl_RL_30 dL_law_352 (sw_fit_l (by decide)) (Nat.le_of_ble_eq_true rfl) rfl (fun r2 S2 => ?_)
  refine sw_icmp_eq (np := 358) (tp := 1459) dL_law_355 rfl rfl ?_ ?_
  · refine sw_inc_4_3 (np := 1462) dL_law_1459 sw_ic_6 rfl rfl ?_
    refine sw_goto (tp := 18) dL_law_1462 rfl ?_
    exact hrec1 _ _
  · refine sw_iconst (np := 359) dL_law_358 sw_ic_0 rfl ?_
    exact sw_ret0 dL_law_359
def fL_c4 (xs : Nat → Int32) (L N : Nat) (rec1 : Int32 → sw_St → Option (Int32 × sw_St)) (i : Int32) (S : sw_St) : Option (Int32 × sw_St) :=
  sw_gd (sw_in (i + (1 : Int32)) L) (sw_bd (fX8_feed N (xs (i + (1 : Int32)).toNatClampNeg) S) (fun r1 S1 => (sw_gd (sw_in (i + (1 : Int32)) L) (sw_bd (fX9_feed N (xs (i + (1 : Int32)).toNatClampNeg) S1) (fun r2 S2 => (if r1 = r2 then (rec1 (i + (6 : Int32)) S2) else (some ((0 : Int32), S2))))))))
theorem hL_c4 {G : sw_G} {b L N : Nat} {xs : Nat → Int32} {rec1 : Int32 → sw_St → Option (Int32 × sw_St)} (hrec1 : ∀ (i : Int32) (S : sw_St), sw_Rn G RL cL_law 4 ret room_1 128 sw_SL (sw_Zl G b L xs) 18 [some (.ref b), some (sw_vr G 0), some (sw_vr G 105), some (.int i)] [] S (rec1 i S)) (i : Int32) (S : sw_St) : sw_Rn G RL cL_law 4 ret room_1 128 sw_SL (sw_Zl G b L xs) 360 [some (.ref b), some (sw_vr G 0), some (sw_vr G 105), some (.int i)] [] S (fL_c4 xs L N rec1 i S) := by
  unfold fL_c4
  refine sw_ald_4_1 (np := 361) dL_law_360 rfl ?_
  refine sw_ald_4_0 (np := 362) dL_law_361 rfl ?_
  refine sw_ild_4_3 (np := 363) dL_law_362 rfl ?_
  refine sw_iconst (np := 364) dL_law_363 sw_ic_1 rfl ?_
  refine sw_iadd (np := 365) dL_law_364 rfl ?_
  refine sw_sld (np := 366) dL_law_365 rfl ?_
  refine sw_cV1i (np := 369) (hX8_feed (d := 1000) (Nat.le_of_ble_eq_true rfl) ) sw_mv_X8_feed sw_k_0 sw_wl_RL_31 dL_law_366 (sw_fit_l (by decide)) (Nat.le_of_ble_eq_true rfl) rfl (fun r1 S1 => ?_)
  refine sw_ald_4_2 (np := 370) dL_law_369 rfl ?_
  refine sw_ald_4_0 (np := 371) dL_law_370 rfl ?_
  refine sw_ild_4_3 (np := 372) dL_law_371 rfl ?_
  refine sw_iconst (np := 373) dL_law_372 sw_ic_1 rfl ?_
  refine sw_iadd (np := 374) dL_law_373 rfl ?_
  refine sw_sld (np := 375) dL_law_374 rfl ?_
  refine sw_cV1i (np := 378) (hX9_feed (d := 1000) (Nat.le_of_ble_eq_true rfl) ) sw_mv_X9_feed sw_k_105 sw_wl_RL_35 dL_law_375 (sw_fit_l (by decide)) (Nat.le_of_ble_eq_true rfl) rfl (fun r2 S2 => ?_)
  refine sw_icmp_eq (np := 381) (tp := 1459) dL_law_378 rfl rfl ?_ ?_
  · refine sw_inc_4_3 (np := 1462) dL_law_1459 sw_ic_6 rfl rfl ?_
    refine sw_goto (tp := 18) dL_law_1462 rfl ?_
    exact hrec1 _ _
  · refine sw_iconst (np := 382) dL_law_381 sw_ic_0 rfl ?_
    exact sw_ret0 dL_law_382
def fL_c5 (xs : Nat → Int32) (L N : Nat) (rec1 : Int32 → sw_St → Option (Int32 × sw_St)) (i : Int32) (S : sw_St) : Option (Int32 × sw_St) :=
  sw_bd (fX8_law N S) (fun r1 S1 => (sw_bd (fX9_law N S1) (fun r2 S2 => (if r1 = r2 then (rec1 (i + (6 : Int32)) S2) else (some ((0 : Int32), S2))))))
theorem hL_c5 {G : sw_G} {b L N : Nat} {xs : Nat → Int32} {rec1 : Int32 → sw_St → Option (Int32 × sw_St)} (hrec1 : ∀ (i : Int32) (S : sw_St), sw_Rn G RL cL_law 4 ret room_1 128 sw_SL (sw_Zl G b L xs) 18 [some (.ref b), some (sw_vr G 0), some (sw_vr G 105), some (.int i)] [] S (rec1 i S)) (i : Int32) (S : sw_St) : sw_Rn G RL cL_law 4 ret room_1 128 sw_SL (sw_Zl G b L xs) 383 [some (.ref b), some (sw_vr G 0), some (sw_vr G 105), some (.int i)] [] S (fL_c5 xs L N rec1 i S) := by
  unfold fL_c5
  refine sw_ald_4_1 (np := 384) dL_law_383 rfl ?_
  refine sw_cV0i (np := 387) (hX8_law (d := 1000) (Nat.le_of_ble_eq_true rfl) ) sw_mv_X8_law sw_k_0 sw_wl_RL_36 dL_law_384 (sw_fit_l (by decide)) (Nat.le_of_ble_eq_true rfl) rfl (fun r1 S1 => ?_)
  refine sw_ald_4_2 (np := 388) dL_law_387 rfl ?_
  refine sw_cV0i (np := 391) (hX9_law (d := 1000) (Nat.le_of_ble_eq_true rfl) ) sw_mv_X9_law sw_k_105 sw_wl_RL_40 dL_law_388 (sw_fit_l (by decide)) (Nat.le_of_ble_eq_true rfl) rfl (fun r2 S2 => ?_)
  refine sw_icmp_eq (np := 394) (tp := 1459) dL_law_391 rfl rfl ?_ ?_
  · refine sw_inc_4_3 (np := 1462) dL_law_1459 sw_ic_6 rfl rfl ?_
    refine sw_goto (tp := 18) dL_law_1462 rfl ?_
    exact hrec1 _ _
  · refine sw_iconst (np := 395) dL_law_394 sw_ic_0 rfl ?_
    exact sw_ret0 dL_law_395
def fL_c6 (xs : Nat → Int32) (L N : Nat) (rec1 : Int32 → sw_St → Option (Int32 × sw_St)) (i : Int32) (S : sw_St) : Option (Int32 × sw_St) :=
  sw_gd (sw_in (i + (1 : Int32)) L) (sw_bd (fX8_grows N (xs (i + (1 : Int32)).toNatClampNeg) S) (fun r1 S1 => (sw_gd (sw_in (i + (1 : Int32)) L) (sw_bd (fX9_grows N (xs (i + (1 : Int32)).toNatClampNeg) S1) (fun r2 S2 => (if r1 = r2 then (rec1 (i + (6 : Int32)) S2) else (some ((0 : Int32), S2))))))))
theorem hL_c6 {G : sw_G} {b L N : Nat} {xs : Nat → Int32} {rec1 : Int32 → sw_St → Option (Int32 × sw_St)} (hrec1 : ∀ (i : Int32) (S : sw_St), sw_Rn G RL cL_law 4 ret room_1 128 sw_SL (sw_Zl G b L xs) 18 [some (.ref b), some (sw_vr G 0), some (sw_vr G 105), some (.int i)] [] S (rec1 i S)) (i : Int32) (S : sw_St) : sw_Rn G RL cL_law 4 ret room_1 128 sw_SL (sw_Zl G b L xs) 396 [some (.ref b), some (sw_vr G 0), some (sw_vr G 105), some (.int i)] [] S (fL_c6 xs L N rec1 i S) := by
  unfold fL_c6
  refine sw_ald_4_1 (np := 397) dL_law_396 rfl ?_
  refine sw_ald_4_0 (np := 398) dL_law_397 rfl ?_
  refine sw_ild_4_3 (np := 399) dL_law_398 rfl ?_
  refine sw_iconst (np := 400) dL_law_399 sw_ic_1 rfl ?_
  refine sw_iadd (np := 401) dL_law_400 rfl ?_
  refine sw_sld (np := 402) dL_law_401 rfl ?_
  refine sw_cV1i (np := 405) (hX8_grows (d := 1000) (Nat.le_of_ble_eq_true rfl) ) sw_mv_X8_grows sw_k_0 sw_wl_RL_41 dL_law_402 (sw_fit_l (by decide)) (Nat.le_of_ble_eq_true rfl) rfl (fun r1 S1 => ?_)
  refine sw_ald_4_2 (np := 406) dL_law_405 rfl ?_
  refine sw_ald_4_0 (np := 407) dL_law_406 rfl ?_
  refine sw_ild_4_3 (np := 408) dL_law_407 rfl ?_
  refine sw_iconst (np := 409) dL_law_408 sw_ic_1 rfl ?_
  refine sw_iadd (np := 410) dL_law_409 rfl ?_
  refine sw_sld (np := 411) dL_law_410 rfl ?_
  refine sw_cV1i (np := 414) (hX9_grows (d := 1000) (Nat.le_of_ble_eq_true rfl) ) sw_mv_X9_grows sw_k_105 sw_wl_RL_44 dL_law_411 (sw_fit_l (by decide)) (Nat.le_of_ble_eq_true rfl) rfl (fun r2 S2 => ?_)
  refine sw_icmp_eq (np := 417) (tp := 1459) dL_law_414 rfl rfl ?_ ?_
  · refine sw_inc_4_3 (np := 1462) dL_law_1459 sw_ic_6 rfl rfl ?_
    refine sw_goto (tp := 18) dL_law_1462 rfl ?_
    exact hrec1 _ _
  · refine sw_iconst (np := 418) dL_law_417 sw_ic_0 rfl ?_
    exact sw_ret0 dL_law_418
def fL_c7 (xs : Nat → Int32) (L N : Nat) (rec1 : Int32 → sw_St → Option (Int32 × sw_St)) (i : Int32) (S : sw_St) : Option (Int32 × sw_St) :=
  sw_gd (sw_in (i + (1 : Int32)) L) (sw_gd (sw_in (i + (2 : Int32)) L) (sw_gd (sw_in (i + (3 : Int32)) L) (sw_bd (fX8_later N (xs (i + (1 : Int32)).toNatClampNeg) (xs (i + (2 : Int32)).toNatClampNeg) (xs (i + (3 : Int32)).toNatClampNeg) S) (fun r1 S1 => (sw_gd (sw_in (i + (1 : Int32)) L) (sw_gd (sw_in (i + (2 : Int32)) L) (sw_gd (sw_in (i + (3 : Int32)) L) (sw_bd (fX9_later N (xs (i + (1 : Int32)).toNatClampNeg) (xs (i + (2 : Int32)).toNatClampNeg) (xs (i + (3 : Int32)).toNatClampNeg) S1) (fun r2 S2 => (if r1 = r2 then (rec1 (i + (6 : Int32)) S2) else (some ((0 : Int32), S2))))))))))))
theorem hL_c7 {G : sw_G} {b L N : Nat} {xs : Nat → Int32} {rec1 : Int32 → sw_St → Option (Int32 × sw_St)} (hrec1 : ∀ (i : Int32) (S : sw_St), sw_Rn G RL cL_law 4 ret room_1 128 sw_SL (sw_Zl G b L xs) 18 [some (.ref b), some (sw_vr G 0), some (sw_vr G 105), some (.int i)] [] S (rec1 i S)) (i : Int32) (S : sw_St) : sw_Rn G RL cL_law 4 ret room_1 128 sw_SL (sw_Zl G b L xs) 419 [some (.ref b), some (sw_vr G 0), some (sw_vr G 105), some (.int i)] [] S (fL_c7 xs L N rec1 i S) := by
  unfold fL_c7
  refine sw_ald_4_1 (np := 420) dL_law_419 rfl ?_
  refine sw_ald_4_0 (np := 421) dL_law_420 rfl ?_
  refine sw_ild_4_3 (np := 422) dL_law_421 rfl ?_
  refine sw_iconst (np := 423) dL_law_422 sw_ic_1 rfl ?_
  refine sw_iadd (np := 424) dL_law_423 rfl ?_
  refine sw_sld (np := 425) dL_law_424 rfl ?_
  refine sw_ald_4_0 (np := 426) dL_law_425 rfl ?_
  refine sw_ild_4_3 (np := 427) dL_law_426 rfl ?_
  refine sw_iconst (np := 428) dL_law_427 sw_ic_2 rfl ?_
  refine sw_iadd (np := 429) dL_law_428 rfl ?_
  refine sw_sld (np := 430) dL_law_429 rfl ?_
  refine sw_ald_4_0 (np := 431) dL_law_430 rfl ?_
  refine sw_ild_4_3 (np := 432) dL_law_431 rfl ?_
  refine sw_iconst (np := 433) dL_law_432 sw_ic_3 rfl ?_
  refine sw_iadd (np := 434) dL_law_433 rfl ?_
  refine sw_sld (np := 435) dL_law_434 rfl ?_
  refine sw_cV3i (np := 438) (hX8_later (d := 1000) (Nat.le_of_ble_eq_true rfl) ) sw_mv_X8_later sw_k_0 sw_wl_RL_45 dL_law_435 (sw_fit_l (by decide)) (Nat.le_of_ble_eq_true rfl) rfl (fun r1 S1 => ?_)
  refine sw_ald_4_2 (np := 439) dL_law_438 rfl ?_
  refine sw_ald_4_0 (np := 440) dL_law_439 rfl ?_
  refine sw_ild_4_3 (np := 441) dL_law_440 rfl ?_
  refine sw_iconst (np := 442) dL_law_441 sw_ic_1 rfl ?_
  refine sw_iadd (np := 443) dL_law_442 rfl ?_
  refine sw_sld (np := 444) dL_law_443 rfl ?_
  refine sw_ald_4_0 (np := 445) dL_law_444 rfl ?_
  refine sw_ild_4_3 (np := 446) dL_law_445 rfl ?_
  refine sw_iconst (np := 447) dL_law_446 sw_ic_2 rfl ?_
  refine sw_iadd (np := 448) dL_law_447 rfl ?_
  refine sw_sld (np := 449) dL_law_448 rfl ?_
  refine sw_ald_4_0 (np := 450) dL_law_449 rfl ?_
  refine sw_ild_4_3 (np := 451) dL_law_450 rfl ?_
  refine sw_iconst (np := 452) dL_law_451 sw_ic_3 rfl ?_
  refine sw_iadd (np := 453) dL_law_452 rfl ?_
  refine sw_sld (np := 454) dL_law_453 rfl ?_
  refine sw_cV3i (np := 457) (hX9_later (d := 1000) (Nat.le_of_ble_eq_true rfl) ) sw_mv_X9_later sw_k_105 sw_wl_RL_48 dL_law_454 (sw_fit_l (by decide)) (Nat.le_of_ble_eq_true rfl) rfl (fun r2 S2 => ?_)
  refine sw_icmp_eq (np := 460) (tp := 1459) dL_law_457 rfl rfl ?_ ?_
  · refine sw_inc_4_3 (np := 1462) dL_law_1459 sw_ic_6 rfl rfl ?_
    refine sw_goto (tp := 18) dL_law_1462 rfl ?_
    exact hrec1 _ _
  · refine sw_iconst (np := 461) dL_law_460 sw_ic_0 rfl ?_
    exact sw_ret0 dL_law_461
def fL_c8 (xs : Nat → Int32) (L N : Nat) (rec1 : Int32 → sw_St → Option (Int32 × sw_St)) (i : Int32) (S : sw_St) : Option (Int32 × sw_St) :=
  sw_gd (sw_in (i + (1 : Int32)) L) (sw_gd (sw_in (i + (2 : Int32)) L) (sw_gd (sw_in (i + (3 : Int32)) L) (sw_bd (fX8_awake N (xs (i + (1 : Int32)).toNatClampNeg) (xs (i + (2 : Int32)).toNatClampNeg) (xs (i + (3 : Int32)).toNatClampNeg) S) (fun r1 S1 => (sw_gd (sw_in (i + (1 : Int32)) L) (sw_gd (sw_in (i + (2 : Int32)) L) (sw_gd (sw_in (i + (3 : Int32)) L) (sw_bd (fX9_awake N (xs (i + (1 : Int32)).toNatClampNeg) (xs (i + (2 : Int32)).toNatClampNeg) (xs (i + (3 : Int32)).toNatClampNeg) S1) (fun r2 S2 => (if r1 = r2 then (rec1 (i + (6 : Int32)) S2) else (some ((0 : Int32), S2))))))))))))
theorem hL_c8 {G : sw_G} {b L N : Nat} {xs : Nat → Int32} {rec1 : Int32 → sw_St → Option (Int32 × sw_St)} (hrec1 : ∀ (i : Int32) (S : sw_St), sw_Rn G RL cL_law 4 ret room_1 128 sw_SL (sw_Zl G b L xs) 18 [some (.ref b), some (sw_vr G 0), some (sw_vr G 105), some (.int i)] [] S (rec1 i S)) (i : Int32) (S : sw_St) : sw_Rn G RL cL_law 4 ret room_1 128 sw_SL (sw_Zl G b L xs) 462 [some (.ref b), some (sw_vr G 0), some (sw_vr G 105), some (.int i)] [] S (fL_c8 xs L N rec1 i S) := by
  unfold fL_c8
  refine sw_ald_4_1 (np := 463) dL_law_462 rfl ?_
  refine sw_ald_4_0 (np := 464) dL_law_463 rfl ?_
  refine sw_ild_4_3 (np := 465) dL_law_464 rfl ?_
  refine sw_iconst (np := 466) dL_law_465 sw_ic_1 rfl ?_
  refine sw_iadd (np := 467) dL_law_466 rfl ?_
  refine sw_sld (np := 468) dL_law_467 rfl ?_
  refine sw_ald_4_0 (np := 469) dL_law_468 rfl ?_
  refine sw_ild_4_3 (np := 470) dL_law_469 rfl ?_
  refine sw_iconst (np := 471) dL_law_470 sw_ic_2 rfl ?_
  refine sw_iadd (np := 472) dL_law_471 rfl ?_
  refine sw_sld (np := 473) dL_law_472 rfl ?_
  refine sw_ald_4_0 (np := 474) dL_law_473 rfl ?_
  refine sw_ild_4_3 (np := 475) dL_law_474 rfl ?_
  refine sw_iconst (np := 476) dL_law_475 sw_ic_3 rfl ?_
  refine sw_iadd (np := 477) dL_law_476 rfl ?_
  refine sw_sld (np := 478) dL_law_477 rfl ?_
  refine sw_cV3i (np := 481) (hX8_awake (d := 1000) (Nat.le_of_ble_eq_true rfl) ) sw_mv_X8_awake sw_k_0 sw_wl_RL_49 dL_law_478 (sw_fit_l (by decide)) (Nat.le_of_ble_eq_true rfl) rfl (fun r1 S1 => ?_)
  refine sw_ald_4_2 (np := 482) dL_law_481 rfl ?_
  refine sw_ald_4_0 (np := 483) dL_law_482 rfl ?_
  refine sw_ild_4_3 (np := 484) dL_law_483 rfl ?_
  refine sw_iconst (np := 485) dL_law_484 sw_ic_1 rfl ?_
  refine sw_iadd (np := 486) dL_law_485 rfl ?_
  refine sw_sld (np := 487) dL_law_486 rfl ?_
  refine sw_ald_4_0 (np := 488) dL_law_487 rfl ?_
  refine sw_ild_4_3 (np := 489) dL_law_488 rfl ?_
  refine sw_iconst (np := 490) dL_law_489 sw_ic_2 rfl ?_
  refine sw_iadd (np := 491) dL_law_490 rfl ?_
  refine sw_sld (np := 492) dL_law_491 rfl ?_
  refine sw_ald_4_0 (np := 493) dL_law_492 rfl ?_
  refine sw_ild_4_3 (np := 494) dL_law_493 rfl ?_
  refine sw_iconst (np := 495) dL_law_494 sw_ic_3 rfl ?_
  refine sw_iadd (np := 496) dL_law_495 rfl ?_
  refine sw_sld (np := 497) dL_law_496 rfl ?_
  refine sw_cV3i (np := 500) (hX9_awake (d := 1000) (Nat.le_of_ble_eq_true rfl) ) sw_mv_X9_awake sw_k_105 sw_wl_RL_52 dL_law_497 (sw_fit_l (by decide)) (Nat.le_of_ble_eq_true rfl) rfl (fun r2 S2 => ?_)
  refine sw_icmp_eq (np := 503) (tp := 1459) dL_law_500 rfl rfl ?_ ?_
  · refine sw_inc_4_3 (np := 1462) dL_law_1459 sw_ic_6 rfl rfl ?_
    refine sw_goto (tp := 18) dL_law_1462 rfl ?_
    exact hrec1 _ _
  · refine sw_iconst (np := 504) dL_law_503 sw_ic_0 rfl ?_
    exact sw_ret0 dL_law_504
def fL_c9 (xs : Nat → Int32) (L N : Nat) (rec1 : Int32 → sw_St → Option (Int32 × sw_St)) (i : Int32) (S : sw_St) : Option (Int32 × sw_St) :=
  sw_gd (sw_in (i + (1 : Int32)) L) (sw_gd (sw_in (i + (2 : Int32)) L) (sw_gd (sw_in (i + (3 : Int32)) L) (sw_bd (fX8_cries N (xs (i + (1 : Int32)).toNatClampNeg) (xs (i + (2 : Int32)).toNatClampNeg) (xs (i + (3 : Int32)).toNatClampNeg) S) (fun r1 S1 => (sw_gd (sw_in (i + (1 : Int32)) L) (sw_gd (sw_in (i + (2 : Int32)) L) (sw_gd (sw_in (i + (3 : Int32)) L) (sw_bd (fX9_cries N (xs (i + (1 : Int32)).toNatClampNeg) (xs (i + (2 : Int32)).toNatClampNeg) (xs (i + (3 : Int32)).toNatClampNeg) S1) (fun r2 S2 => (if r1 = r2 then (rec1 (i + (6 : Int32)) S2) else (some ((0 : Int32), S2))))))))))))
theorem hL_c9 {G : sw_G} {b L N : Nat} {xs : Nat → Int32} {rec1 : Int32 → sw_St → Option (Int32 × sw_St)} (hrec1 : ∀ (i : Int32) (S : sw_St), sw_Rn G RL cL_law 4 ret room_1 128 sw_SL (sw_Zl G b L xs) 18 [some (.ref b), some (sw_vr G 0), some (sw_vr G 105), some (.int i)] [] S (rec1 i S)) (i : Int32) (S : sw_St) : sw_Rn G RL cL_law 4 ret room_1 128 sw_SL (sw_Zl G b L xs) 505 [some (.ref b), some (sw_vr G 0), some (sw_vr G 105), some (.int i)] [] S (fL_c9 xs L N rec1 i S) := by
  unfold fL_c9
  refine sw_ald_4_1 (np := 506) dL_law_505 rfl ?_
  refine sw_ald_4_0 (np := 507) dL_law_506 rfl ?_
  refine sw_ild_4_3 (np := 508) dL_law_507 rfl ?_
  refine sw_iconst (np := 509) dL_law_508 sw_ic_1 rfl ?_
  refine sw_iadd (np := 510) dL_law_509 rfl ?_
  refine sw_sld (np := 511) dL_law_510 rfl ?_
  refine sw_ald_4_0 (np := 512) dL_law_511 rfl ?_
  refine sw_ild_4_3 (np := 513) dL_law_512 rfl ?_
  refine sw_iconst (np := 514) dL_law_513 sw_ic_2 rfl ?_
  refine sw_iadd (np := 515) dL_law_514 rfl ?_
  refine sw_sld (np := 516) dL_law_515 rfl ?_
  refine sw_ald_4_0 (np := 517) dL_law_516 rfl ?_
  refine sw_ild_4_3 (np := 518) dL_law_517 rfl ?_
  refine sw_iconst (np := 519) dL_law_518 sw_ic_3 rfl ?_
  refine sw_iadd (np := 520) dL_law_519 rfl ?_
  refine sw_sld (np := 521) dL_law_520 rfl ?_
  refine sw_cV3i (np := 524) (hX8_cries (d := 1000) (Nat.le_of_ble_eq_true rfl) ) sw_mv_X8_cries sw_k_0 sw_wl_RL_53 dL_law_521 (sw_fit_l (by decide)) (Nat.le_of_ble_eq_true rfl) rfl (fun r1 S1 => ?_)
  refine sw_ald_4_2 (np := 525) dL_law_524 rfl ?_
  refine sw_ald_4_0 (np := 526) dL_law_525 rfl ?_
  refine sw_ild_4_3 (np := 527) dL_law_526 rfl ?_
  refine sw_iconst (np := 528) dL_law_527 sw_ic_1 rfl ?_
  refine sw_iadd (np := 529) dL_law_528 rfl ?_
  refine sw_sld (np := 530) dL_law_529 rfl ?_
  refine sw_ald_4_0 (np := 531) dL_law_530 rfl ?_
  refine sw_ild_4_3 (np := 532) dL_law_531 rfl ?_
  refine sw_iconst (np := 533) dL_law_532 sw_ic_2 rfl ?_
  refine sw_iadd (np := 534) dL_law_533 rfl ?_
  refine sw_sld (np := 535) dL_law_534 rfl ?_
  refine sw_ald_4_0 (np := 536) dL_law_535 rfl ?_
  refine sw_ild_4_3 (np := 537) dL_law_536 rfl ?_
  refine sw_iconst (np := 538) dL_law_537 sw_ic_3 rfl ?_
  refine sw_iadd (np := 539) dL_law_538 rfl ?_
  refine sw_sld (np := 540) dL_law_539 rfl ?_
  refine sw_cV3i (np := 543) (hX9_cries (d := 1000) (Nat.le_of_ble_eq_true rfl) ) sw_mv_X9_cries sw_k_105 sw_wl_RL_56 dL_law_540 (sw_fit_l (by decide)) (Nat.le_of_ble_eq_true rfl) rfl (fun r2 S2 => ?_)
  refine sw_icmp_eq (np := 546) (tp := 1459) dL_law_543 rfl rfl ?_ ?_
  · refine sw_inc_4_3 (np := 1462) dL_law_1459 sw_ic_6 rfl rfl ?_
    refine sw_goto (tp := 18) dL_law_1462 rfl ?_
    exact hrec1 _ _
  · refine sw_iconst (np := 547) dL_law_546 sw_ic_0 rfl ?_
    exact sw_ret0 dL_law_547
def fL_c10 (xs : Nat → Int32) (L N : Nat) (rec1 : Int32 → sw_St → Option (Int32 × sw_St)) (i : Int32) (S : sw_St) : Option (Int32 × sw_St) :=
  sw_gd (sw_in (i + (1 : Int32)) L) (sw_bd (fX8_asleep N (xs (i + (1 : Int32)).toNatClampNeg) S) (fun r1 S1 => (sw_gd (sw_in (i + (1 : Int32)) L) (sw_bd (fX9_asleep N (xs (i + (1 : Int32)).toNatClampNeg) S1) (fun r2 S2 => (if r1 = r2 then (rec1 (i + (6 : Int32)) S2) else (some ((0 : Int32), S2))))))))
theorem hL_c10 {G : sw_G} {b L N : Nat} {xs : Nat → Int32} {rec1 : Int32 → sw_St → Option (Int32 × sw_St)} (hrec1 : ∀ (i : Int32) (S : sw_St), sw_Rn G RL cL_law 4 ret room_1 128 sw_SL (sw_Zl G b L xs) 18 [some (.ref b), some (sw_vr G 0), some (sw_vr G 105), some (.int i)] [] S (rec1 i S)) (i : Int32) (S : sw_St) : sw_Rn G RL cL_law 4 ret room_1 128 sw_SL (sw_Zl G b L xs) 548 [some (.ref b), some (sw_vr G 0), some (sw_vr G 105), some (.int i)] [] S (fL_c10 xs L N rec1 i S) := by
  unfold fL_c10
  refine sw_ald_4_1 (np := 549) dL_law_548 rfl ?_
  refine sw_ald_4_0 (np := 550) dL_law_549 rfl ?_
  refine sw_ild_4_3 (np := 551) dL_law_550 rfl ?_
  refine sw_iconst (np := 552) dL_law_551 sw_ic_1 rfl ?_
  refine sw_iadd (np := 553) dL_law_552 rfl ?_
  refine sw_sld (np := 554) dL_law_553 rfl ?_
  refine sw_cV1i (np := 557) (hX8_asleep (d := 1000) (Nat.le_of_ble_eq_true rfl) ) sw_mv_X8_asleep sw_k_0 sw_wl_RL_57 dL_law_554 (sw_fit_l (by decide)) (Nat.le_of_ble_eq_true rfl) rfl (fun r1 S1 => ?_)
  refine sw_ald_4_2 (np := 558) dL_law_557 rfl ?_
  refine sw_ald_4_0 (np := 559) dL_law_558 rfl ?_
  refine sw_ild_4_3 (np := 560) dL_law_559 rfl ?_
  refine sw_iconst (np := 561) dL_law_560 sw_ic_1 rfl ?_
  refine sw_iadd (np := 562) dL_law_561 rfl ?_
  refine sw_sld (np := 563) dL_law_562 rfl ?_
  refine sw_cV1i (np := 566) (hX9_asleep (d := 1000) (Nat.le_of_ble_eq_true rfl) ) sw_mv_X9_asleep sw_k_105 sw_wl_RL_60 dL_law_563 (sw_fit_l (by decide)) (Nat.le_of_ble_eq_true rfl) rfl (fun r2 S2 => ?_)
  refine sw_icmp_eq (np := 569) (tp := 1459) dL_law_566 rfl rfl ?_ ?_
  · refine sw_inc_4_3 (np := 1462) dL_law_1459 sw_ic_6 rfl rfl ?_
    refine sw_goto (tp := 18) dL_law_1462 rfl ?_
    exact hrec1 _ _
  · refine sw_iconst (np := 570) dL_law_569 sw_ic_0 rfl ?_
    exact sw_ret0 dL_law_570
def fL_c11 (xs : Nat → Int32) (L N : Nat) (rec1 : Int32 → sw_St → Option (Int32 × sw_St)) (i : Int32) (S : sw_St) : Option (Int32 × sw_St) :=
  sw_gd (sw_in (i + (1 : Int32)) L) (sw_gd (sw_in (i + (2 : Int32)) L) (sw_bd (fX8_bestRound N (xs (i + (1 : Int32)).toNatClampNeg) (xs (i + (2 : Int32)).toNatClampNeg) S) (fun r1 S1 => (sw_gd (sw_in (i + (1 : Int32)) L) (sw_gd (sw_in (i + (2 : Int32)) L) (sw_bd (fX9_bestRound N (xs (i + (1 : Int32)).toNatClampNeg) (xs (i + (2 : Int32)).toNatClampNeg) S1) (fun r2 S2 => (if r1 = r2 then (rec1 (i + (6 : Int32)) S2) else (some ((0 : Int32), S2))))))))))
theorem hL_c11 {G : sw_G} {b L N : Nat} {xs : Nat → Int32} {rec1 : Int32 → sw_St → Option (Int32 × sw_St)} (hrec1 : ∀ (i : Int32) (S : sw_St), sw_Rn G RL cL_law 4 ret room_1 128 sw_SL (sw_Zl G b L xs) 18 [some (.ref b), some (sw_vr G 0), some (sw_vr G 105), some (.int i)] [] S (rec1 i S)) (i : Int32) (S : sw_St) : sw_Rn G RL cL_law 4 ret room_1 128 sw_SL (sw_Zl G b L xs) 571 [some (.ref b), some (sw_vr G 0), some (sw_vr G 105), some (.int i)] [] S (fL_c11 xs L N rec1 i S) := by
  unfold fL_c11
  refine sw_ald_4_1 (np := 572) dL_law_571 rfl ?_
  refine sw_ald_4_0 (np := 573) dL_law_572 rfl ?_
  refine sw_ild_4_3 (np := 574) dL_law_573 rfl ?_
  refine sw_iconst (np := 575) dL_law_574 sw_ic_1 rfl ?_
  refine sw_iadd (np := 576) dL_law_575 rfl ?_
  refine sw_sld (np := 577) dL_law_576 rfl ?_
  refine sw_ald_4_0 (np := 578) dL_law_577 rfl ?_
  refine sw_ild_4_3 (np := 579) dL_law_578 rfl ?_
  refine sw_iconst (np := 580) dL_law_579 sw_ic_2 rfl ?_
  refine sw_iadd (np := 581) dL_law_580 rfl ?_
  refine sw_sld (np := 582) dL_law_581 rfl ?_
  refine sw_cV2i (np := 585) (hX8_bestRound (d := 1000) (Nat.le_of_ble_eq_true rfl) ) sw_mv_X8_bestRound sw_k_0 sw_wl_RL_61 dL_law_582 (sw_fit_l (by decide)) (Nat.le_of_ble_eq_true rfl) rfl (fun r1 S1 => ?_)
  refine sw_ald_4_2 (np := 586) dL_law_585 rfl ?_
  refine sw_ald_4_0 (np := 587) dL_law_586 rfl ?_
  refine sw_ild_4_3 (np := 588) dL_law_587 rfl ?_
  refine sw_iconst (np := 589) dL_law_588 sw_ic_1 rfl ?_
  refine sw_iadd (np := 590) dL_law_589 rfl ?_
  refine sw_sld (np := 591) dL_law_590 rfl ?_
  refine sw_ald_4_0 (np := 592) dL_law_591 rfl ?_
  refine sw_ild_4_3 (np := 593) dL_law_592 rfl ?_
  refine sw_iconst (np := 594) dL_law_593 sw_ic_2 rfl ?_
  refine sw_iadd (np := 595) dL_law_594 rfl ?_
  refine sw_sld (np := 596) dL_law_595 rfl ?_
  refine sw_cV2i (np := 599) (hX9_bestRound (d := 1000) (Nat.le_of_ble_eq_true rfl) ) sw_mv_X9_bestRound sw_k_105 sw_wl_RL_64 dL_law_596 (sw_fit_l (by decide)) (Nat.le_of_ble_eq_true rfl) rfl (fun r2 S2 => ?_)
  refine sw_icmp_eq (np := 602) (tp := 1459) dL_law_599 rfl rfl ?_ ?_
  · refine sw_inc_4_3 (np := 1462) dL_law_1459 sw_ic_6 rfl rfl ?_
    refine sw_goto (tp := 18) dL_law_1462 rfl ?_
    exact hrec1 _ _
  · refine sw_iconst (np := 603) dL_law_602 sw_ic_0 rfl ?_
    exact sw_ret0 dL_law_603
def fL_c12 (xs : Nat → Int32) (L N : Nat) (rec1 : Int32 → sw_St → Option (Int32 × sw_St)) (i : Int32) (S : sw_St) : Option (Int32 × sw_St) :=
  sw_gd (sw_in (i + (1 : Int32)) L) (sw_bd (fX8_told N (xs (i + (1 : Int32)).toNatClampNeg) S) (fun r1 S1 => (sw_gd (sw_in (i + (1 : Int32)) L) (sw_bd (fX9_told N (xs (i + (1 : Int32)).toNatClampNeg) S1) (fun r2 S2 => (if r1 = r2 then (rec1 (i + (6 : Int32)) S2) else (some ((0 : Int32), S2))))))))
theorem hL_c12 {G : sw_G} {b L N : Nat} {xs : Nat → Int32} {rec1 : Int32 → sw_St → Option (Int32 × sw_St)} (hrec1 : ∀ (i : Int32) (S : sw_St), sw_Rn G RL cL_law 4 ret room_1 128 sw_SL (sw_Zl G b L xs) 18 [some (.ref b), some (sw_vr G 0), some (sw_vr G 105), some (.int i)] [] S (rec1 i S)) (i : Int32) (S : sw_St) : sw_Rn G RL cL_law 4 ret room_1 128 sw_SL (sw_Zl G b L xs) 604 [some (.ref b), some (sw_vr G 0), some (sw_vr G 105), some (.int i)] [] S (fL_c12 xs L N rec1 i S) := by
  unfold fL_c12
  refine sw_ald_4_1 (np := 605) dL_law_604 rfl ?_
  refine sw_ald_4_0 (np := 606) dL_law_605 rfl ?_
  refine sw_ild_4_3 (np := 607) dL_law_606 rfl ?_
  refine sw_iconst (np := 608) dL_law_607 sw_ic_1 rfl ?_
  refine sw_iadd (np := 609) dL_law_608 rfl ?_
  refine sw_sld (np := 610) dL_law_609 rfl ?_
  refine sw_cV1i (np := 613) (hX8_told (d := 1000) (Nat.le_of_ble_eq_true rfl) ) sw_mv_X8_told sw_k_0 sw_wl_RL_65 dL_law_610 (sw_fit_l (by decide)) (Nat.le_of_ble_eq_true rfl) rfl (fun r1 S1 => ?_)
  refine sw_ald_4_2 (np := 614) dL_law_613 rfl ?_
  refine sw_ald_4_0 (np := 615) dL_law_614 rfl ?_
  refine sw_ild_4_3 (np := 616) dL_law_615 rfl ?_
  refine sw_iconst (np := 617) dL_law_616 sw_ic_1 rfl ?_
  refine sw_iadd (np := 618) dL_law_617 rfl ?_
  refine sw_sld (np := 619) dL_law_618 rfl ?_
  refine sw_cV1i (np := 622) (hX9_told (d := 1000) (Nat.le_of_ble_eq_true rfl) ) sw_mv_X9_told sw_k_105 sw_wl_RL_68 dL_law_619 (sw_fit_l (by decide)) (Nat.le_of_ble_eq_true rfl) rfl (fun r2 S2 => ?_)
  refine sw_icmp_eq (np := 625) (tp := 1459) dL_law_622 rfl rfl ?_ ?_
  · refine sw_inc_4_3 (np := 1462) dL_law_1459 sw_ic_6 rfl rfl ?_
    refine sw_goto (tp := 18) dL_law_1462 rfl ?_
    exact hrec1 _ _
  · refine sw_iconst (np := 626) dL_law_625 sw_ic_0 rfl ?_
    exact sw_ret0 dL_law_626
def fL_c13 (xs : Nat → Int32) (L N : Nat) (rec1 : Int32 → sw_St → Option (Int32 × sw_St)) (i : Int32) (S : sw_St) : Option (Int32 × sw_St) :=
  sw_gd (sw_in (i + (1 : Int32)) L) (sw_gd (sw_in (i + (2 : Int32)) L) (sw_bd (fX8_woken N (xs (i + (1 : Int32)).toNatClampNeg) (xs (i + (2 : Int32)).toNatClampNeg) S) (fun r1 S1 => (sw_gd (sw_in (i + (1 : Int32)) L) (sw_gd (sw_in (i + (2 : Int32)) L) (sw_bd (fX9_woken N (xs (i + (1 : Int32)).toNatClampNeg) (xs (i + (2 : Int32)).toNatClampNeg) S1) (fun r2 S2 => (if r1 = r2 then (rec1 (i + (6 : Int32)) S2) else (some ((0 : Int32), S2))))))))))
theorem hL_c13 {G : sw_G} {b L N : Nat} {xs : Nat → Int32} {rec1 : Int32 → sw_St → Option (Int32 × sw_St)} (hrec1 : ∀ (i : Int32) (S : sw_St), sw_Rn G RL cL_law 4 ret room_1 128 sw_SL (sw_Zl G b L xs) 18 [some (.ref b), some (sw_vr G 0), some (sw_vr G 105), some (.int i)] [] S (rec1 i S)) (i : Int32) (S : sw_St) : sw_Rn G RL cL_law 4 ret room_1 128 sw_SL (sw_Zl G b L xs) 627 [some (.ref b), some (sw_vr G 0), some (sw_vr G 105), some (.int i)] [] S (fL_c13 xs L N rec1 i S) := by
  unfold fL_c13
  refine sw_ald_4_1 (np := 628) dL_law_627 rfl ?_
  refine sw_ald_4_0 (np := 629) dL_law_628 rfl ?_
  refine sw_ild_4_3 (np := 630) dL_law_629 rfl ?_
  refine sw_iconst (np := 631) dL_law_630 sw_ic_1 rfl ?_
  refine sw_iadd (np := 632) dL_law_631 rfl ?_
  refine sw_sld (np := 633) dL_law_632 rfl ?_
  refine sw_ald_4_0 (np := 634) dL_law_633 rfl ?_
  refine sw_ild_4_3 (np := 635) dL_law_634 rfl ?_
  refine sw_iconst (np := 636) dL_law_635 sw_ic_2 rfl ?_
  refine sw_iadd (np := 637) dL_law_636 rfl ?_
  refine sw_sld (np := 638) dL_law_637 rfl ?_
  refine sw_cV2i (np := 641) (hX8_woken (d := 1000) (Nat.le_of_ble_eq_true rfl) ) sw_mv_X8_woken sw_k_0 sw_wl_RL_69 dL_law_638 (sw_fit_l (by decide)) (Nat.le_of_ble_eq_true rfl) rfl (fun r1 S1 => ?_)
  refine sw_ald_4_2 (np := 642) dL_law_641 rfl ?_
  refine sw_ald_4_0 (np := 643) dL_law_642 rfl ?_
  refine sw_ild_4_3 (np := 644) dL_law_643 rfl ?_
  refine sw_iconst (np := 645) dL_law_644 sw_ic_1 rfl ?_
  refine sw_iadd (np := 646) dL_law_645 rfl ?_
  refine sw_sld (np := 647) dL_law_646 rfl ?_
  refine sw_ald_4_0 (np := 648) dL_law_647 rfl ?_
  refine sw_ild_4_3 (np := 649) dL_law_648 rfl ?_
  refine sw_iconst (np := 650) dL_law_649 sw_ic_2 rfl ?_
  refine sw_iadd (np := 651) dL_law_650 rfl ?_
  refine sw_sld (np := 652) dL_law_651 rfl ?_
  refine sw_cV2i (np := 655) (hX9_woken (d := 1000) (Nat.le_of_ble_eq_true rfl) ) sw_mv_X9_woken sw_k_105 sw_wl_RL_72 dL_law_652 (sw_fit_l (by decide)) (Nat.le_of_ble_eq_true rfl) rfl (fun r2 S2 => ?_)
  refine sw_icmp_eq (np := 658) (tp := 1459) dL_law_655 rfl rfl ?_ ?_
  · refine sw_inc_4_3 (np := 1462) dL_law_1459 sw_ic_6 rfl rfl ?_
    refine sw_goto (tp := 18) dL_law_1462 rfl ?_
    exact hrec1 _ _
  · refine sw_iconst (np := 659) dL_law_658 sw_ic_0 rfl ?_
    exact sw_ret0 dL_law_659
def fL_c14 (xs : Nat → Int32) (L N : Nat) (rec1 : Int32 → sw_St → Option (Int32 × sw_St)) (i : Int32) (S : sw_St) : Option (Int32 × sw_St) :=
  sw_gd (sw_in (i + (1 : Int32)) L) (sw_bd (fX8_walk N (xs (i + (1 : Int32)).toNatClampNeg) S) (fun r1 S1 => (sw_gd (sw_in (i + (1 : Int32)) L) (sw_bd (fX9_walk N (xs (i + (1 : Int32)).toNatClampNeg) S1) (fun r2 S2 => (if r1 = r2 then (rec1 (i + (6 : Int32)) S2) else (some ((0 : Int32), S2))))))))
theorem hL_c14 {G : sw_G} {b L N : Nat} {xs : Nat → Int32} {rec1 : Int32 → sw_St → Option (Int32 × sw_St)} (hrec1 : ∀ (i : Int32) (S : sw_St), sw_Rn G RL cL_law 4 ret room_1 128 sw_SL (sw_Zl G b L xs) 18 [some (.ref b), some (sw_vr G 0), some (sw_vr G 105), some (.int i)] [] S (rec1 i S)) (i : Int32) (S : sw_St) : sw_Rn G RL cL_law 4 ret room_1 128 sw_SL (sw_Zl G b L xs) 660 [some (.ref b), some (sw_vr G 0), some (sw_vr G 105), some (.int i)] [] S (fL_c14 xs L N rec1 i S) := by
  unfold fL_c14
  refine sw_ald_4_1 (np := 661) dL_law_660 rfl ?_
  refine sw_ald_4_0 (np := 662) dL_law_661 rfl ?_
  refine sw_ild_4_3 (np := 663) dL_law_662 rfl ?_
  refine sw_iconst (np := 664) dL_law_663 sw_ic_1 rfl ?_
  refine sw_iadd (np := 665) dL_law_664 rfl ?_
  refine sw_sld (np := 666) dL_law_665 rfl ?_
  refine sw_cV1i (np := 669) (hX8_walk (d := 1000) (Nat.le_of_ble_eq_true rfl) ) sw_mv_X8_walk sw_k_0 sw_wl_RL_73 dL_law_666 (sw_fit_l (by decide)) (Nat.le_of_ble_eq_true rfl) rfl (fun r1 S1 => ?_)
  refine sw_ald_4_2 (np := 670) dL_law_669 rfl ?_
  refine sw_ald_4_0 (np := 671) dL_law_670 rfl ?_
  refine sw_ild_4_3 (np := 672) dL_law_671 rfl ?_
  refine sw_iconst (np := 673) dL_law_672 sw_ic_1 rfl ?_
  refine sw_iadd (np := 674) dL_law_673 rfl ?_
  refine sw_sld (np := 675) dL_law_674 rfl ?_
  refine sw_cV1i (np := 678) (hX9_walk (d := 1000) (Nat.le_of_ble_eq_true rfl) ) sw_mv_X9_walk sw_k_105 sw_wl_RL_76 dL_law_675 (sw_fit_l (by decide)) (Nat.le_of_ble_eq_true rfl) rfl (fun r2 S2 => ?_)
  refine sw_icmp_eq (np := 681) (tp := 1459) dL_law_678 rfl rfl ?_ ?_
  · refine sw_inc_4_3 (np := 1462) dL_law_1459 sw_ic_6 rfl rfl ?_
    refine sw_goto (tp := 18) dL_law_1462 rfl ?_
    exact hrec1 _ _
  · refine sw_iconst (np := 682) dL_law_681 sw_ic_0 rfl ?_
    exact sw_ret0 dL_law_682
def fL_c15 (xs : Nat → Int32) (L N : Nat) (rec1 : Int32 → sw_St → Option (Int32 × sw_St)) (i : Int32) (S : sw_St) : Option (Int32 × sw_St) :=
  sw_gd (sw_in (i + (1 : Int32)) L) (sw_gd (sw_in (i + (2 : Int32)) L) (sw_bd (fX8_judge N (xs (i + (1 : Int32)).toNatClampNeg) (xs (i + (2 : Int32)).toNatClampNeg) S) (fun r1 S1 => (sw_gd (sw_in (i + (1 : Int32)) L) (sw_gd (sw_in (i + (2 : Int32)) L) (sw_bd (fX9_judge N (xs (i + (1 : Int32)).toNatClampNeg) (xs (i + (2 : Int32)).toNatClampNeg) S1) (fun r2 S2 => (if r1 = r2 then (rec1 (i + (6 : Int32)) S2) else (some ((0 : Int32), S2))))))))))
theorem hL_c15 {G : sw_G} {b L N : Nat} {xs : Nat → Int32} {rec1 : Int32 → sw_St → Option (Int32 × sw_St)} (hrec1 : ∀ (i : Int32) (S : sw_St), sw_Rn G RL cL_law 4 ret room_1 128 sw_SL (sw_Zl G b L xs) 18 [some (.ref b), some (sw_vr G 0), some (sw_vr G 105), some (.int i)] [] S (rec1 i S)) (i : Int32) (S : sw_St) : sw_Rn G RL cL_law 4 ret room_1 128 sw_SL (sw_Zl G b L xs) 683 [some (.ref b), some (sw_vr G 0), some (sw_vr G 105), some (.int i)] [] S (fL_c15 xs L N rec1 i S) := by
  unfold fL_c15
  refine sw_ald_4_1 (np := 684) dL_law_683 rfl ?_
  refine sw_ald_4_0 (np := 685) dL_law_684 rfl ?_
  refine sw_ild_4_3 (np := 686) dL_law_685 rfl ?_
  refine sw_iconst (np := 687) dL_law_686 sw_ic_1 rfl ?_
  refine sw_iadd (np := 688) dL_law_687 rfl ?_
  refine sw_sld (np := 689) dL_law_688 rfl ?_
  refine sw_ald_4_0 (np := 690) dL_law_689 rfl ?_
  refine sw_ild_4_3 (np := 691) dL_law_690 rfl ?_
  refine sw_iconst (np := 692) dL_law_691 sw_ic_2 rfl ?_
  refine sw_iadd (np := 693) dL_law_692 rfl ?_
  refine sw_sld (np := 694) dL_law_693 rfl ?_
  refine sw_cV2i (np := 697) (hX8_judge (d := 1000) (Nat.le_of_ble_eq_true rfl) ) sw_mv_X8_judge sw_k_0 sw_wl_RL_77 dL_law_694 (sw_fit_l (by decide)) (Nat.le_of_ble_eq_true rfl) rfl (fun r1 S1 => ?_)
  refine sw_ald_4_2 (np := 698) dL_law_697 rfl ?_
  refine sw_ald_4_0 (np := 699) dL_law_698 rfl ?_
  refine sw_ild_4_3 (np := 700) dL_law_699 rfl ?_
  refine sw_iconst (np := 701) dL_law_700 sw_ic_1 rfl ?_
  refine sw_iadd (np := 702) dL_law_701 rfl ?_
  refine sw_sld (np := 703) dL_law_702 rfl ?_
  refine sw_ald_4_0 (np := 704) dL_law_703 rfl ?_
  refine sw_ild_4_3 (np := 705) dL_law_704 rfl ?_
  refine sw_iconst (np := 706) dL_law_705 sw_ic_2 rfl ?_
  refine sw_iadd (np := 707) dL_law_706 rfl ?_
  refine sw_sld (np := 708) dL_law_707 rfl ?_
  refine sw_cV2i (np := 711) (hX9_judge (d := 1000) (Nat.le_of_ble_eq_true rfl) ) sw_mv_X9_judge sw_k_105 sw_wl_RL_80 dL_law_708 (sw_fit_l (by decide)) (Nat.le_of_ble_eq_true rfl) rfl (fun r2 S2 => ?_)
  refine sw_icmp_eq (np := 714) (tp := 1459) dL_law_711 rfl rfl ?_ ?_
  · refine sw_inc_4_3 (np := 1462) dL_law_1459 sw_ic_6 rfl rfl ?_
    refine sw_goto (tp := 18) dL_law_1462 rfl ?_
    exact hrec1 _ _
  · refine sw_iconst (np := 715) dL_law_714 sw_ic_0 rfl ?_
    exact sw_ret0 dL_law_715
def fL_c16 (xs : Nat → Int32) (L N : Nat) (rec1 : Int32 → sw_St → Option (Int32 × sw_St)) (i : Int32) (S : sw_St) : Option (Int32 × sw_St) :=
  sw_gd (sw_in (i + (1 : Int32)) L) (sw_gd (sw_in (i + (2 : Int32)) L) (sw_gd (sw_in (i + (3 : Int32)) L) (sw_bd (fX8_fits N (xs (i + (1 : Int32)).toNatClampNeg) (xs (i + (2 : Int32)).toNatClampNeg) (xs (i + (3 : Int32)).toNatClampNeg) S) (fun r1 S1 => (sw_gd (sw_in (i + (1 : Int32)) L) (sw_gd (sw_in (i + (2 : Int32)) L) (sw_gd (sw_in (i + (3 : Int32)) L) (sw_bd (fX9_fits N (xs (i + (1 : Int32)).toNatClampNeg) (xs (i + (2 : Int32)).toNatClampNeg) (xs (i + (3 : Int32)).toNatClampNeg) S1) (fun r2 S2 => (if r1 = r2 then (rec1 (i + (6 : Int32)) S2) else (some ((0 : Int32), S2))))))))))))
theorem hL_c16 {G : sw_G} {b L N : Nat} {xs : Nat → Int32} {rec1 : Int32 → sw_St → Option (Int32 × sw_St)} (hrec1 : ∀ (i : Int32) (S : sw_St), sw_Rn G RL cL_law 4 ret room_1 128 sw_SL (sw_Zl G b L xs) 18 [some (.ref b), some (sw_vr G 0), some (sw_vr G 105), some (.int i)] [] S (rec1 i S)) (i : Int32) (S : sw_St) : sw_Rn G RL cL_law 4 ret room_1 128 sw_SL (sw_Zl G b L xs) 716 [some (.ref b), some (sw_vr G 0), some (sw_vr G 105), some (.int i)] [] S (fL_c16 xs L N rec1 i S) := by
  unfold fL_c16
  refine sw_ald_4_1 (np := 717) dL_law_716 rfl ?_
  refine sw_ald_4_0 (np := 718) dL_law_717 rfl ?_
  refine sw_ild_4_3 (np := 719) dL_law_718 rfl ?_
  refine sw_iconst (np := 720) dL_law_719 sw_ic_1 rfl ?_
  refine sw_iadd (np := 721) dL_law_720 rfl ?_
  refine sw_sld (np := 722) dL_law_721 rfl ?_
  refine sw_ald_4_0 (np := 723) dL_law_722 rfl ?_
  refine sw_ild_4_3 (np := 724) dL_law_723 rfl ?_
  refine sw_iconst (np := 725) dL_law_724 sw_ic_2 rfl ?_
  refine sw_iadd (np := 726) dL_law_725 rfl ?_
  refine sw_sld (np := 727) dL_law_726 rfl ?_
  refine sw_ald_4_0 (np := 728) dL_law_727 rfl ?_
  refine sw_ild_4_3 (np := 729) dL_law_728 rfl ?_
  refine sw_iconst (np := 730) dL_law_729 sw_ic_3 rfl ?_
  refine sw_iadd (np := 731) dL_law_730 rfl ?_
  refine sw_sld (np := 732) dL_law_731 rfl ?_
  refine sw_cV3i (np := 735) (hX8_fits (d := 1000) (Nat.le_of_ble_eq_true rfl) ) sw_mv_X8_fits sw_k_0 sw_wl_RL_81 dL_law_732 (sw_fit_l (by decide)) (Nat.le_of_ble_eq_true rfl) rfl (fun r1 S1 => ?_)
  refine sw_ald_4_2 (np := 736) dL_law_735 rfl ?_
  refine sw_ald_4_0 (np := 737) dL_law_736 rfl ?_
  refine sw_ild_4_3 (np := 738) dL_law_737 rfl ?_
  refine sw_iconst (np := 739) dL_law_738 sw_ic_1 rfl ?_
  refine sw_iadd (np := 740) dL_law_739 rfl ?_
  refine sw_sld (np := 741) dL_law_740 rfl ?_
  refine sw_ald_4_0 (np := 742) dL_law_741 rfl ?_
  refine sw_ild_4_3 (np := 743) dL_law_742 rfl ?_
  refine sw_iconst (np := 744) dL_law_743 sw_ic_2 rfl ?_
  refine sw_iadd (np := 745) dL_law_744 rfl ?_
  refine sw_sld (np := 746) dL_law_745 rfl ?_
  refine sw_ald_4_0 (np := 747) dL_law_746 rfl ?_
  refine sw_ild_4_3 (np := 748) dL_law_747 rfl ?_
  refine sw_iconst (np := 749) dL_law_748 sw_ic_3 rfl ?_
  refine sw_iadd (np := 750) dL_law_749 rfl ?_
  refine sw_sld (np := 751) dL_law_750 rfl ?_
  refine sw_cV3i (np := 754) (hX9_fits (d := 1000) (Nat.le_of_ble_eq_true rfl) ) sw_mv_X9_fits sw_k_105 sw_wl_RL_84 dL_law_751 (sw_fit_l (by decide)) (Nat.le_of_ble_eq_true rfl) rfl (fun r2 S2 => ?_)
  refine sw_icmp_eq (np := 757) (tp := 1459) dL_law_754 rfl rfl ?_ ?_
  · refine sw_inc_4_3 (np := 1462) dL_law_1459 sw_ic_6 rfl rfl ?_
    refine sw_goto (tp := 18) dL_law_1462 rfl ?_
    exact hrec1 _ _
  · refine sw_iconst (np := 758) dL_law_757 sw_ic_0 rfl ?_
    exact sw_ret0 dL_law_758
def fL_c17 (xs : Nat → Int32) (L N : Nat) (rec1 : Int32 → sw_St → Option (Int32 × sw_St)) (i : Int32) (S : sw_St) : Option (Int32 × sw_St) :=
  sw_gd (sw_in (i + (1 : Int32)) L) (sw_bd (fX8_dealt N (xs (i + (1 : Int32)).toNatClampNeg) S) (fun r1 S1 => (sw_gd (sw_in (i + (1 : Int32)) L) (sw_bd (fX9_dealt N (xs (i + (1 : Int32)).toNatClampNeg) S1) (fun r2 S2 => (if r1 = r2 then (rec1 (i + (6 : Int32)) S2) else (some ((0 : Int32), S2))))))))
theorem hL_c17 {G : sw_G} {b L N : Nat} {xs : Nat → Int32} {rec1 : Int32 → sw_St → Option (Int32 × sw_St)} (hrec1 : ∀ (i : Int32) (S : sw_St), sw_Rn G RL cL_law 4 ret room_1 128 sw_SL (sw_Zl G b L xs) 18 [some (.ref b), some (sw_vr G 0), some (sw_vr G 105), some (.int i)] [] S (rec1 i S)) (i : Int32) (S : sw_St) : sw_Rn G RL cL_law 4 ret room_1 128 sw_SL (sw_Zl G b L xs) 759 [some (.ref b), some (sw_vr G 0), some (sw_vr G 105), some (.int i)] [] S (fL_c17 xs L N rec1 i S) := by
  unfold fL_c17
  refine sw_ald_4_1 (np := 760) dL_law_759 rfl ?_
  refine sw_ald_4_0 (np := 761) dL_law_760 rfl ?_
  refine sw_ild_4_3 (np := 762) dL_law_761 rfl ?_
  refine sw_iconst (np := 763) dL_law_762 sw_ic_1 rfl ?_
  refine sw_iadd (np := 764) dL_law_763 rfl ?_
  refine sw_sld (np := 765) dL_law_764 rfl ?_
  refine sw_cV1i (np := 768) (hX8_dealt (d := 1000) (Nat.le_of_ble_eq_true rfl) ) sw_mv_X8_dealt sw_k_0 sw_wl_RL_85 dL_law_765 (sw_fit_l (by decide)) (Nat.le_of_ble_eq_true rfl) rfl (fun r1 S1 => ?_)
  refine sw_ald_4_2 (np := 769) dL_law_768 rfl ?_
  refine sw_ald_4_0 (np := 770) dL_law_769 rfl ?_
  refine sw_ild_4_3 (np := 771) dL_law_770 rfl ?_
  refine sw_iconst (np := 772) dL_law_771 sw_ic_1 rfl ?_
  refine sw_iadd (np := 773) dL_law_772 rfl ?_
  refine sw_sld (np := 774) dL_law_773 rfl ?_
  refine sw_cV1i (np := 777) (hX9_dealt (d := 1000) (Nat.le_of_ble_eq_true rfl) ) sw_mv_X9_dealt sw_k_105 sw_wl_RL_88 dL_law_774 (sw_fit_l (by decide)) (Nat.le_of_ble_eq_true rfl) rfl (fun r2 S2 => ?_)
  refine sw_icmp_eq (np := 780) (tp := 1459) dL_law_777 rfl rfl ?_ ?_
  · refine sw_inc_4_3 (np := 1462) dL_law_1459 sw_ic_6 rfl rfl ?_
    refine sw_goto (tp := 18) dL_law_1462 rfl ?_
    exact hrec1 _ _
  · refine sw_iconst (np := 781) dL_law_780 sw_ic_0 rfl ?_
    exact sw_ret0 dL_law_781
def fL_c18 (xs : Nat → Int32) (L N : Nat) (rec1 : Int32 → sw_St → Option (Int32 × sw_St)) (i : Int32) (S : sw_St) : Option (Int32 × sw_St) :=
  sw_gd (sw_in (i + (1 : Int32)) L) (sw_bd (fX8_lines N (xs (i + (1 : Int32)).toNatClampNeg) S) (fun r1 S1 => (sw_gd (sw_in (i + (1 : Int32)) L) (sw_bd (fX9_lines N (xs (i + (1 : Int32)).toNatClampNeg) S1) (fun r2 S2 => (if r1 = r2 then (rec1 (i + (6 : Int32)) S2) else (some ((0 : Int32), S2))))))))
theorem hL_c18 {G : sw_G} {b L N : Nat} {xs : Nat → Int32} {rec1 : Int32 → sw_St → Option (Int32 × sw_St)} (hrec1 : ∀ (i : Int32) (S : sw_St), sw_Rn G RL cL_law 4 ret room_1 128 sw_SL (sw_Zl G b L xs) 18 [some (.ref b), some (sw_vr G 0), some (sw_vr G 105), some (.int i)] [] S (rec1 i S)) (i : Int32) (S : sw_St) : sw_Rn G RL cL_law 4 ret room_1 128 sw_SL (sw_Zl G b L xs) 782 [some (.ref b), some (sw_vr G 0), some (sw_vr G 105), some (.int i)] [] S (fL_c18 xs L N rec1 i S) := by
  unfold fL_c18
  refine sw_ald_4_1 (np := 783) dL_law_782 rfl ?_
  refine sw_ald_4_0 (np := 784) dL_law_783 rfl ?_
  refine sw_ild_4_3 (np := 785) dL_law_784 rfl ?_
  refine sw_iconst (np := 786) dL_law_785 sw_ic_1 rfl ?_
  refine sw_iadd (np := 787) dL_law_786 rfl ?_
  refine sw_sld (np := 788) dL_law_787 rfl ?_
  refine sw_cV1i (np := 791) (hX8_lines (d := 1000) (Nat.le_of_ble_eq_true rfl) ) sw_mv_X8_lines sw_k_0 sw_wl_RL_89 dL_law_788 (sw_fit_l (by decide)) (Nat.le_of_ble_eq_true rfl) rfl (fun r1 S1 => ?_)
  refine sw_ald_4_2 (np := 792) dL_law_791 rfl ?_
  refine sw_ald_4_0 (np := 793) dL_law_792 rfl ?_
  refine sw_ild_4_3 (np := 794) dL_law_793 rfl ?_
  refine sw_iconst (np := 795) dL_law_794 sw_ic_1 rfl ?_
  refine sw_iadd (np := 796) dL_law_795 rfl ?_
  refine sw_sld (np := 797) dL_law_796 rfl ?_
  refine sw_cV1i (np := 800) (hX9_lines (d := 1000) (Nat.le_of_ble_eq_true rfl) ) sw_mv_X9_lines sw_k_105 sw_wl_RL_92 dL_law_797 (sw_fit_l (by decide)) (Nat.le_of_ble_eq_true rfl) rfl (fun r2 S2 => ?_)
  refine sw_icmp_eq (np := 803) (tp := 1459) dL_law_800 rfl rfl ?_ ?_
  · refine sw_inc_4_3 (np := 1462) dL_law_1459 sw_ic_6 rfl rfl ?_
    refine sw_goto (tp := 18) dL_law_1462 rfl ?_
    exact hrec1 _ _
  · refine sw_iconst (np := 804) dL_law_803 sw_ic_0 rfl ?_
    exact sw_ret0 dL_law_804
def fL_c19 (xs : Nat → Int32) (L N : Nat) (rec1 : Int32 → sw_St → Option (Int32 × sw_St)) (i : Int32) (S : sw_St) : Option (Int32 × sw_St) :=
  sw_gd (sw_in (i + (1 : Int32)) L) (sw_gd (sw_in (i + (2 : Int32)) L) (sw_bd (fX8_byTurns N (xs (i + (1 : Int32)).toNatClampNeg) (xs (i + (2 : Int32)).toNatClampNeg) S) (fun r1 S1 => (sw_gd (sw_in (i + (1 : Int32)) L) (sw_gd (sw_in (i + (2 : Int32)) L) (sw_bd (fX9_byTurns N (xs (i + (1 : Int32)).toNatClampNeg) (xs (i + (2 : Int32)).toNatClampNeg) S1) (fun r2 S2 => (if r1 = r2 then (rec1 (i + (6 : Int32)) S2) else (some ((0 : Int32), S2))))))))))
theorem hL_c19 {G : sw_G} {b L N : Nat} {xs : Nat → Int32} {rec1 : Int32 → sw_St → Option (Int32 × sw_St)} (hrec1 : ∀ (i : Int32) (S : sw_St), sw_Rn G RL cL_law 4 ret room_1 128 sw_SL (sw_Zl G b L xs) 18 [some (.ref b), some (sw_vr G 0), some (sw_vr G 105), some (.int i)] [] S (rec1 i S)) (i : Int32) (S : sw_St) : sw_Rn G RL cL_law 4 ret room_1 128 sw_SL (sw_Zl G b L xs) 805 [some (.ref b), some (sw_vr G 0), some (sw_vr G 105), some (.int i)] [] S (fL_c19 xs L N rec1 i S) := by
  unfold fL_c19
  refine sw_ald_4_1 (np := 806) dL_law_805 rfl ?_
  refine sw_ald_4_0 (np := 807) dL_law_806 rfl ?_
  refine sw_ild_4_3 (np := 808) dL_law_807 rfl ?_
  refine sw_iconst (np := 809) dL_law_808 sw_ic_1 rfl ?_
  refine sw_iadd (np := 810) dL_law_809 rfl ?_
  refine sw_sld (np := 811) dL_law_810 rfl ?_
  refine sw_ald_4_0 (np := 812) dL_law_811 rfl ?_
  refine sw_ild_4_3 (np := 813) dL_law_812 rfl ?_
  refine sw_iconst (np := 814) dL_law_813 sw_ic_2 rfl ?_
  refine sw_iadd (np := 815) dL_law_814 rfl ?_
  refine sw_sld (np := 816) dL_law_815 rfl ?_
  refine sw_cV2i (np := 819) (hX8_byTurns (d := 1000) (Nat.le_of_ble_eq_true rfl) ) sw_mv_X8_byTurns sw_k_0 sw_wl_RL_93 dL_law_816 (sw_fit_l (by decide)) (Nat.le_of_ble_eq_true rfl) rfl (fun r1 S1 => ?_)
  refine sw_ald_4_2 (np := 820) dL_law_819 rfl ?_
  refine sw_ald_4_0 (np := 821) dL_law_820 rfl ?_
  refine sw_ild_4_3 (np := 822) dL_law_821 rfl ?_
  refine sw_iconst (np := 823) dL_law_822 sw_ic_1 rfl ?_
  refine sw_iadd (np := 824) dL_law_823 rfl ?_
  refine sw_sld (np := 825) dL_law_824 rfl ?_
  refine sw_ald_4_0 (np := 826) dL_law_825 rfl ?_
  refine sw_ild_4_3 (np := 827) dL_law_826 rfl ?_
  refine sw_iconst (np := 828) dL_law_827 sw_ic_2 rfl ?_
  refine sw_iadd (np := 829) dL_law_828 rfl ?_
  refine sw_sld (np := 830) dL_law_829 rfl ?_
  refine sw_cV2i (np := 833) (hX9_byTurns (d := 1000) (Nat.le_of_ble_eq_true rfl) ) sw_mv_X9_byTurns sw_k_105 sw_wl_RL_96 dL_law_830 (sw_fit_l (by decide)) (Nat.le_of_ble_eq_true rfl) rfl (fun r2 S2 => ?_)
  refine sw_icmp_eq (np := 836) (tp := 1459) dL_law_833 rfl rfl ?_ ?_
  · refine sw_inc_4_3 (np := 1462) dL_law_1459 sw_ic_6 rfl rfl ?_
    refine sw_goto (tp := 18) dL_law_1462 rfl ?_
    exact hrec1 _ _
  · refine sw_iconst (np := 837) dL_law_836 sw_ic_0 rfl ?_
    exact sw_ret0 dL_law_837
def fL_c20 (xs : Nat → Int32) (L N : Nat) (rec1 : Int32 → sw_St → Option (Int32 × sw_St)) (i : Int32) (S : sw_St) : Option (Int32 × sw_St) :=
  sw_gd (sw_in (i + (1 : Int32)) L) (sw_gd (sw_in (i + (2 : Int32)) L) (sw_gd (sw_in (i + (3 : Int32)) L) (sw_bd (fX8_drawn N (xs (i + (1 : Int32)).toNatClampNeg) (xs (i + (2 : Int32)).toNatClampNeg) (xs (i + (3 : Int32)).toNatClampNeg) S) (fun r1 S1 => (sw_gd (sw_in (i + (1 : Int32)) L) (sw_gd (sw_in (i + (2 : Int32)) L) (sw_gd (sw_in (i + (3 : Int32)) L) (sw_bd (fX9_drawn N (xs (i + (1 : Int32)).toNatClampNeg) (xs (i + (2 : Int32)).toNatClampNeg) (xs (i + (3 : Int32)).toNatClampNeg) S1) (fun r2 S2 => (if r1 = r2 then (rec1 (i + (6 : Int32)) S2) else (some ((0 : Int32), S2))))))))))))
theorem hL_c20 {G : sw_G} {b L N : Nat} {xs : Nat → Int32} {rec1 : Int32 → sw_St → Option (Int32 × sw_St)} (hrec1 : ∀ (i : Int32) (S : sw_St), sw_Rn G RL cL_law 4 ret room_1 128 sw_SL (sw_Zl G b L xs) 18 [some (.ref b), some (sw_vr G 0), some (sw_vr G 105), some (.int i)] [] S (rec1 i S)) (i : Int32) (S : sw_St) : sw_Rn G RL cL_law 4 ret room_1 128 sw_SL (sw_Zl G b L xs) 838 [some (.ref b), some (sw_vr G 0), some (sw_vr G 105), some (.int i)] [] S (fL_c20 xs L N rec1 i S) := by
  unfold fL_c20
  refine sw_ald_4_1 (np := 839) dL_law_838 rfl ?_
  refine sw_ald_4_0 (np := 840) dL_law_839 rfl ?_
  refine sw_ild_4_3 (np := 841) dL_law_840 rfl ?_
  refine sw_iconst (np := 842) dL_law_841 sw_ic_1 rfl ?_
  refine sw_iadd (np := 843) dL_law_842 rfl ?_
  refine sw_sld (np := 844) dL_law_843 rfl ?_
  refine sw_ald_4_0 (np := 845) dL_law_844 rfl ?_
  refine sw_ild_4_3 (np := 846) dL_law_845 rfl ?_
  refine sw_iconst (np := 847) dL_law_846 sw_ic_2 rfl ?_
  refine sw_iadd (np := 848) dL_law_847 rfl ?_
  refine sw_sld (np := 849) dL_law_848 rfl ?_
  refine sw_ald_4_0 (np := 850) dL_law_849 rfl ?_
  refine sw_ild_4_3 (np := 851) dL_law_850 rfl ?_
  refine sw_iconst (np := 852) dL_law_851 sw_ic_3 rfl ?_
  refine sw_iadd (np := 853) dL_law_852 rfl ?_
  refine sw_sld (np := 854) dL_law_853 rfl ?_
  refine sw_cV3i (np := 857) (hX8_drawn (d := 1000) (Nat.le_of_ble_eq_true rfl) ) sw_mv_X8_drawn sw_k_0 sw_wl_RL_97 dL_law_854 (sw_fit_l (by decide)) (Nat.le_of_ble_eq_true rfl) rfl (fun r1 S1 => ?_)
  refine sw_ald_4_2 (np := 858) dL_law_857 rfl ?_
  refine sw_ald_4_0 (np := 859) dL_law_858 rfl ?_
  refine sw_ild_4_3 (np := 860) dL_law_859 rfl ?_
  refine sw_iconst (np := 861) dL_law_860 sw_ic_1 rfl ?_
  refine sw_iadd (np := 862) dL_law_861 rfl ?_
  refine sw_sld (np := 863) dL_law_862 rfl ?_
  refine sw_ald_4_0 (np := 864) dL_law_863 rfl ?_
  refine sw_ild_4_3 (np := 865) dL_law_864 rfl ?_
  refine sw_iconst (np := 866) dL_law_865 sw_ic_2 rfl ?_
  refine sw_iadd (np := 867) dL_law_866 rfl ?_
  refine sw_sld (np := 868) dL_law_867 rfl ?_
  refine sw_ald_4_0 (np := 869) dL_law_868 rfl ?_
  refine sw_ild_4_3 (np := 870) dL_law_869 rfl ?_
  refine sw_iconst (np := 871) dL_law_870 sw_ic_3 rfl ?_
  refine sw_iadd (np := 872) dL_law_871 rfl ?_
  refine sw_sld (np := 873) dL_law_872 rfl ?_
  refine sw_cV3i (np := 876) (hX9_drawn (d := 1000) (Nat.le_of_ble_eq_true rfl) ) sw_mv_X9_drawn sw_k_105 sw_wl_RL_100 dL_law_873 (sw_fit_l (by decide)) (Nat.le_of_ble_eq_true rfl) rfl (fun r2 S2 => ?_)
  refine sw_icmp_eq (np := 879) (tp := 1459) dL_law_876 rfl rfl ?_ ?_
  · refine sw_inc_4_3 (np := 1462) dL_law_1459 sw_ic_6 rfl rfl ?_
    refine sw_goto (tp := 18) dL_law_1462 rfl ?_
    exact hrec1 _ _
  · refine sw_iconst (np := 880) dL_law_879 sw_ic_0 rfl ?_
    exact sw_ret0 dL_law_880
def fL_c21 (xs : Nat → Int32) (L N : Nat) (rec1 : Int32 → sw_St → Option (Int32 × sw_St)) (i : Int32) (S : sw_St) : Option (Int32 × sw_St) :=
  sw_gd (sw_in (i + (1 : Int32)) L) (sw_bd (fX8_hour N (xs (i + (1 : Int32)).toNatClampNeg) S) (fun r1 S1 => (sw_gd (sw_in (i + (1 : Int32)) L) (sw_bd (fX9_hour N (xs (i + (1 : Int32)).toNatClampNeg) S1) (fun r2 S2 => (if r1 = r2 then (rec1 (i + (6 : Int32)) S2) else (some ((0 : Int32), S2))))))))
theorem hL_c21 {G : sw_G} {b L N : Nat} {xs : Nat → Int32} {rec1 : Int32 → sw_St → Option (Int32 × sw_St)} (hrec1 : ∀ (i : Int32) (S : sw_St), sw_Rn G RL cL_law 4 ret room_1 128 sw_SL (sw_Zl G b L xs) 18 [some (.ref b), some (sw_vr G 0), some (sw_vr G 105), some (.int i)] [] S (rec1 i S)) (i : Int32) (S : sw_St) : sw_Rn G RL cL_law 4 ret room_1 128 sw_SL (sw_Zl G b L xs) 881 [some (.ref b), some (sw_vr G 0), some (sw_vr G 105), some (.int i)] [] S (fL_c21 xs L N rec1 i S) := by
  unfold fL_c21
  refine sw_ald_4_1 (np := 882) dL_law_881 rfl ?_
  refine sw_ald_4_0 (np := 883) dL_law_882 rfl ?_
  refine sw_ild_4_3 (np := 884) dL_law_883 rfl ?_
  refine sw_iconst (np := 885) dL_law_884 sw_ic_1 rfl ?_
  refine sw_iadd (np := 886) dL_law_885 rfl ?_
  refine sw_sld (np := 887) dL_law_886 rfl ?_
  refine sw_cV1i (np := 890) (hX8_hour (d := 1000) (Nat.le_of_ble_eq_true rfl) ) sw_mv_X8_hour sw_k_0 sw_wl_RL_101 dL_law_887 (sw_fit_l (by decide)) (Nat.le_of_ble_eq_true rfl) rfl (fun r1 S1 => ?_)
  refine sw_ald_4_2 (np := 891) dL_law_890 rfl ?_
  refine sw_ald_4_0 (np := 892) dL_law_891 rfl ?_
  refine sw_ild_4_3 (np := 893) dL_law_892 rfl ?_
  refine sw_iconst (np := 894) dL_law_893 sw_ic_1 rfl ?_
  refine sw_iadd (np := 895) dL_law_894 rfl ?_
  refine sw_sld (np := 896) dL_law_895 rfl ?_
  refine sw_cV1i (np := 899) (hX9_hour (d := 1000) (Nat.le_of_ble_eq_true rfl) ) sw_mv_X9_hour sw_k_105 sw_wl_RL_104 dL_law_896 (sw_fit_l (by decide)) (Nat.le_of_ble_eq_true rfl) rfl (fun r2 S2 => ?_)
  refine sw_icmp_eq (np := 902) (tp := 1459) dL_law_899 rfl rfl ?_ ?_
  · refine sw_inc_4_3 (np := 1462) dL_law_1459 sw_ic_6 rfl rfl ?_
    refine sw_goto (tp := 18) dL_law_1462 rfl ?_
    exact hrec1 _ _
  · refine sw_iconst (np := 903) dL_law_902 sw_ic_0 rfl ?_
    exact sw_ret0 dL_law_903
def fL_c22 (xs : Nat → Int32) (L N : Nat) (rec1 : Int32 → sw_St → Option (Int32 × sw_St)) (i : Int32) (S : sw_St) : Option (Int32 × sw_St) :=
  sw_gd (sw_in (i + (1 : Int32)) L) (sw_gd (sw_in (i + (2 : Int32)) L) (sw_bd (fX8_telling N (xs (i + (1 : Int32)).toNatClampNeg) (xs (i + (2 : Int32)).toNatClampNeg) S) (fun r1 S1 => (sw_gd (sw_in (i + (1 : Int32)) L) (sw_gd (sw_in (i + (2 : Int32)) L) (sw_bd (fX9_telling N (xs (i + (1 : Int32)).toNatClampNeg) (xs (i + (2 : Int32)).toNatClampNeg) S1) (fun r2 S2 => (if r1 = r2 then (rec1 (i + (6 : Int32)) S2) else (some ((0 : Int32), S2))))))))))
theorem hL_c22 {G : sw_G} {b L N : Nat} {xs : Nat → Int32} {rec1 : Int32 → sw_St → Option (Int32 × sw_St)} (hrec1 : ∀ (i : Int32) (S : sw_St), sw_Rn G RL cL_law 4 ret room_1 128 sw_SL (sw_Zl G b L xs) 18 [some (.ref b), some (sw_vr G 0), some (sw_vr G 105), some (.int i)] [] S (rec1 i S)) (i : Int32) (S : sw_St) : sw_Rn G RL cL_law 4 ret room_1 128 sw_SL (sw_Zl G b L xs) 904 [some (.ref b), some (sw_vr G 0), some (sw_vr G 105), some (.int i)] [] S (fL_c22 xs L N rec1 i S) := by
  unfold fL_c22
  refine sw_ald_4_1 (np := 905) dL_law_904 rfl ?_
  refine sw_ald_4_0 (np := 906) dL_law_905 rfl ?_
  refine sw_ild_4_3 (np := 907) dL_law_906 rfl ?_
  refine sw_iconst (np := 908) dL_law_907 sw_ic_1 rfl ?_
  refine sw_iadd (np := 909) dL_law_908 rfl ?_
  refine sw_sld (np := 910) dL_law_909 rfl ?_
  refine sw_ald_4_0 (np := 911) dL_law_910 rfl ?_
  refine sw_ild_4_3 (np := 912) dL_law_911 rfl ?_
  refine sw_iconst (np := 913) dL_law_912 sw_ic_2 rfl ?_
  refine sw_iadd (np := 914) dL_law_913 rfl ?_
  refine sw_sld (np := 915) dL_law_914 rfl ?_
  refine sw_cV2i (np := 918) (hX8_telling (d := 1000) (Nat.le_of_ble_eq_true rfl) ) sw_mv_X8_telling sw_k_0 sw_wl_RL_105 dL_law_915 (sw_fit_l (by decide)) (Nat.le_of_ble_eq_true rfl) rfl (fun r1 S1 => ?_)
  refine sw_ald_4_2 (np := 919) dL_law_918 rfl ?_
  refine sw_ald_4_0 (np := 920) dL_law_919 rfl ?_
  refine sw_ild_4_3 (np := 921) dL_law_920 rfl ?_
  refine sw_iconst (np := 922) dL_law_921 sw_ic_1 rfl ?_
  refine sw_iadd (np := 923) dL_law_922 rfl ?_
  refine sw_sld (np := 924) dL_law_923 rfl ?_
  refine sw_ald_4_0 (np := 925) dL_law_924 rfl ?_
  refine sw_ild_4_3 (np := 926) dL_law_925 rfl ?_
  refine sw_iconst (np := 927) dL_law_926 sw_ic_2 rfl ?_
  refine sw_iadd (np := 928) dL_law_927 rfl ?_
  refine sw_sld (np := 929) dL_law_928 rfl ?_
  refine sw_cV2i (np := 932) (hX9_telling (d := 1000) (Nat.le_of_ble_eq_true rfl) ) sw_mv_X9_telling sw_k_105 sw_wl_RL_108 dL_law_929 (sw_fit_l (by decide)) (Nat.le_of_ble_eq_true rfl) rfl (fun r2 S2 => ?_)
  refine sw_icmp_eq (np := 935) (tp := 1459) dL_law_932 rfl rfl ?_ ?_
  · refine sw_inc_4_3 (np := 1462) dL_law_1459 sw_ic_6 rfl rfl ?_
    refine sw_goto (tp := 18) dL_law_1462 rfl ?_
    exact hrec1 _ _
  · refine sw_iconst (np := 936) dL_law_935 sw_ic_0 rfl ?_
    exact sw_ret0 dL_law_936
def fL_c23 (xs : Nat → Int32) (L N : Nat) (rec1 : Int32 → sw_St → Option (Int32 × sw_St)) (i : Int32) (S : sw_St) : Option (Int32 × sw_St) :=
  sw_gd (sw_in (i + (1 : Int32)) L) (sw_bd (fX8_touch N (xs (i + (1 : Int32)).toNatClampNeg) S) (fun r1 S1 => (sw_gd (sw_in (i + (1 : Int32)) L) (sw_bd (fX9_touch N (xs (i + (1 : Int32)).toNatClampNeg) S1) (fun r2 S2 => (if r1 = r2 then (rec1 (i + (6 : Int32)) S2) else (some ((0 : Int32), S2))))))))
theorem hL_c23 {G : sw_G} {b L N : Nat} {xs : Nat → Int32} {rec1 : Int32 → sw_St → Option (Int32 × sw_St)} (hrec1 : ∀ (i : Int32) (S : sw_St), sw_Rn G RL cL_law 4 ret room_1 128 sw_SL (sw_Zl G b L xs) 18 [some (.ref b), some (sw_vr G 0), some (sw_vr G 105), some (.int i)] [] S (rec1 i S)) (i : Int32) (S : sw_St) : sw_Rn G RL cL_law 4 ret room_1 128 sw_SL (sw_Zl G b L xs) 937 [some (.ref b), some (sw_vr G 0), some (sw_vr G 105), some (.int i)] [] S (fL_c23 xs L N rec1 i S) := by
  unfold fL_c23
  refine sw_ald_4_1 (np := 938) dL_law_937 rfl ?_
  refine sw_ald_4_0 (np := 939) dL_law_938 rfl ?_
  refine sw_ild_4_3 (np := 940) dL_law_939 rfl ?_
  refine sw_iconst (np := 941) dL_law_940 sw_ic_1 rfl ?_
  refine sw_iadd (np := 942) dL_law_941 rfl ?_
  refine sw_sld (np := 943) dL_law_942 rfl ?_
  refine sw_cV1i (np := 946) (hX8_touch (d := 1000) (Nat.le_of_ble_eq_true rfl) ) sw_mv_X8_touch sw_k_0 sw_wl_RL_109 dL_law_943 (sw_fit_l (by decide)) (Nat.le_of_ble_eq_true rfl) rfl (fun r1 S1 => ?_)
  refine sw_ald_4_2 (np := 947) dL_law_946 rfl ?_
  refine sw_ald_4_0 (np := 948) dL_law_947 rfl ?_
  refine sw_ild_4_3 (np := 949) dL_law_948 rfl ?_
  refine sw_iconst (np := 950) dL_law_949 sw_ic_1 rfl ?_
  refine sw_iadd (np := 951) dL_law_950 rfl ?_
  refine sw_sld (np := 952) dL_law_951 rfl ?_
  refine sw_cV1i (np := 955) (hX9_touch (d := 1000) (Nat.le_of_ble_eq_true rfl) ) sw_mv_X9_touch sw_k_105 sw_wl_RL_112 dL_law_952 (sw_fit_l (by decide)) (Nat.le_of_ble_eq_true rfl) rfl (fun r2 S2 => ?_)
  refine sw_icmp_eq (np := 958) (tp := 1459) dL_law_955 rfl rfl ?_ ?_
  · refine sw_inc_4_3 (np := 1462) dL_law_1459 sw_ic_6 rfl rfl ?_
    refine sw_goto (tp := 18) dL_law_1462 rfl ?_
    exact hrec1 _ _
  · refine sw_iconst (np := 959) dL_law_958 sw_ic_0 rfl ?_
    exact sw_ret0 dL_law_959
def fL_c24 (xs : Nat → Int32) (L N : Nat) (rec1 : Int32 → sw_St → Option (Int32 × sw_St)) (i : Int32) (S : sw_St) : Option (Int32 × sw_St) :=
  sw_gd (sw_in (i + (1 : Int32)) L) (sw_gd (sw_in (i + (2 : Int32)) L) (sw_bd (fX8_hold N (xs (i + (1 : Int32)).toNatClampNeg) (xs (i + (2 : Int32)).toNatClampNeg) S) (fun r1 S1 => (sw_gd (sw_in (i + (1 : Int32)) L) (sw_gd (sw_in (i + (2 : Int32)) L) (sw_bd (fX9_hold N (xs (i + (1 : Int32)).toNatClampNeg) (xs (i + (2 : Int32)).toNatClampNeg) S1) (fun r2 S2 => (if r1 = r2 then (rec1 (i + (6 : Int32)) S2) else (some ((0 : Int32), S2))))))))))
theorem hL_c24 {G : sw_G} {b L N : Nat} {xs : Nat → Int32} {rec1 : Int32 → sw_St → Option (Int32 × sw_St)} (hrec1 : ∀ (i : Int32) (S : sw_St), sw_Rn G RL cL_law 4 ret room_1 128 sw_SL (sw_Zl G b L xs) 18 [some (.ref b), some (sw_vr G 0), some (sw_vr G 105), some (.int i)] [] S (rec1 i S)) (i : Int32) (S : sw_St) : sw_Rn G RL cL_law 4 ret room_1 128 sw_SL (sw_Zl G b L xs) 960 [some (.ref b), some (sw_vr G 0), some (sw_vr G 105), some (.int i)] [] S (fL_c24 xs L N rec1 i S) := by
  unfold fL_c24
  refine sw_ald_4_1 (np := 961) dL_law_960 rfl ?_
  refine sw_ald_4_0 (np := 962) dL_law_961 rfl ?_
  refine sw_ild_4_3 (np := 963) dL_law_962 rfl ?_
  refine sw_iconst (np := 964) dL_law_963 sw_ic_1 rfl ?_
  refine sw_iadd (np := 965) dL_law_964 rfl ?_
  refine sw_sld (np := 966) dL_law_965 rfl ?_
  refine sw_ald_4_0 (np := 967) dL_law_966 rfl ?_
  refine sw_ild_4_3 (np := 968) dL_law_967 rfl ?_
  refine sw_iconst (np := 969) dL_law_968 sw_ic_2 rfl ?_
  refine sw_iadd (np := 970) dL_law_969 rfl ?_
  refine sw_sld (np := 971) dL_law_970 rfl ?_
  refine sw_cV2i (np := 974) (hX8_hold (d := 1000) (Nat.le_of_ble_eq_true rfl) ) sw_mv_X8_hold sw_k_0 sw_wl_RL_113 dL_law_971 (sw_fit_l (by decide)) (Nat.le_of_ble_eq_true rfl) rfl (fun r1 S1 => ?_)
  refine sw_ald_4_2 (np := 975) dL_law_974 rfl ?_
  refine sw_ald_4_0 (np := 976) dL_law_975 rfl ?_
  refine sw_ild_4_3 (np := 977) dL_law_976 rfl ?_
  refine sw_iconst (np := 978) dL_law_977 sw_ic_1 rfl ?_
  refine sw_iadd (np := 979) dL_law_978 rfl ?_
  refine sw_sld (np := 980) dL_law_979 rfl ?_
  refine sw_ald_4_0 (np := 981) dL_law_980 rfl ?_
  refine sw_ild_4_3 (np := 982) dL_law_981 rfl ?_
  refine sw_iconst (np := 983) dL_law_982 sw_ic_2 rfl ?_
  refine sw_iadd (np := 984) dL_law_983 rfl ?_
  refine sw_sld (np := 985) dL_law_984 rfl ?_
  refine sw_cV2i (np := 988) (hX9_hold (d := 1000) (Nat.le_of_ble_eq_true rfl) ) sw_mv_X9_hold sw_k_105 sw_wl_RL_116 dL_law_985 (sw_fit_l (by decide)) (Nat.le_of_ble_eq_true rfl) rfl (fun r2 S2 => ?_)
  refine sw_icmp_eq (np := 991) (tp := 1459) dL_law_988 rfl rfl ?_ ?_
  · refine sw_inc_4_3 (np := 1462) dL_law_1459 sw_ic_6 rfl rfl ?_
    refine sw_goto (tp := 18) dL_law_1462 rfl ?_
    exact hrec1 _ _
  · refine sw_iconst (np := 992) dL_law_991 sw_ic_0 rfl ?_
    exact sw_ret0 dL_law_992
def fL_c25 (xs : Nat → Int32) (L N : Nat) (rec1 : Int32 → sw_St → Option (Int32 × sw_St)) (i : Int32) (S : sw_St) : Option (Int32 × sw_St) :=
  sw_gd (sw_in (i + (1 : Int32)) L) (sw_bd (fX8_led N (xs (i + (1 : Int32)).toNatClampNeg) S) (fun r1 S1 => (sw_gd (sw_in (i + (1 : Int32)) L) (sw_bd (fX9_led N (xs (i + (1 : Int32)).toNatClampNeg) S1) (fun r2 S2 => (if r1 = r2 then (rec1 (i + (6 : Int32)) S2) else (some ((0 : Int32), S2))))))))
theorem hL_c25 {G : sw_G} {b L N : Nat} {xs : Nat → Int32} {rec1 : Int32 → sw_St → Option (Int32 × sw_St)} (hrec1 : ∀ (i : Int32) (S : sw_St), sw_Rn G RL cL_law 4 ret room_1 128 sw_SL (sw_Zl G b L xs) 18 [some (.ref b), some (sw_vr G 0), some (sw_vr G 105), some (.int i)] [] S (rec1 i S)) (i : Int32) (S : sw_St) : sw_Rn G RL cL_law 4 ret room_1 128 sw_SL (sw_Zl G b L xs) 993 [some (.ref b), some (sw_vr G 0), some (sw_vr G 105), some (.int i)] [] S (fL_c25 xs L N rec1 i S) := by
  unfold fL_c25
  refine sw_ald_4_1 (np := 994) dL_law_993 rfl ?_
  refine sw_ald_4_0 (np := 995) dL_law_994 rfl ?_
  refine sw_ild_4_3 (np := 996) dL_law_995 rfl ?_
  refine sw_iconst (np := 997) dL_law_996 sw_ic_1 rfl ?_
  refine sw_iadd (np := 998) dL_law_997 rfl ?_
  refine sw_sld (np := 999) dL_law_998 rfl ?_
  refine sw_cV1i (np := 1002) (hX8_led (d := 1000) (Nat.le_of_ble_eq_true rfl) ) sw_mv_X8_led sw_k_0 sw_wl_RL_117 dL_law_999 (sw_fit_l (by decide)) (Nat.le_of_ble_eq_true rfl) rfl (fun r1 S1 => ?_)
  refine sw_ald_4_2 (np := 1003) dL_law_1002 rfl ?_
  refine sw_ald_4_0 (np := 1004) dL_law_1003 rfl ?_
  refine sw_ild_4_3 (np := 1005) dL_law_1004 rfl ?_
  refine sw_iconst (np := 1006) dL_law_1005 sw_ic_1 rfl ?_
  refine sw_iadd (np := 1007) dL_law_1006 rfl ?_
  refine sw_sld (np := 1008) dL_law_1007 rfl ?_
  refine sw_cV1i (np := 1011) (hX9_led (d := 1000) (Nat.le_of_ble_eq_true rfl) ) sw_mv_X9_led sw_k_105 sw_wl_RL_120 dL_law_1008 (sw_fit_l (by decide)) (Nat.le_of_ble_eq_true rfl) rfl (fun r2 S2 => ?_)
  refine sw_icmp_eq (np := 1014) (tp := 1459) dL_law_1011 rfl rfl ?_ ?_
  · refine sw_inc_4_3 (np := 1462) dL_law_1459 sw_ic_6 rfl rfl ?_
    refine sw_goto (tp := 18) dL_law_1462 rfl ?_
    exact hrec1 _ _
  · refine sw_iconst (np := 1015) dL_law_1014 sw_ic_0 rfl ?_
    exact sw_ret0 dL_law_1015
def fL_c26 (xs : Nat → Int32) (L N : Nat) (rec1 : Int32 → sw_St → Option (Int32 × sw_St)) (i : Int32) (S : sw_St) : Option (Int32 × sw_St) :=
  sw_bd (fX8_image N S) (fun r1 S1 => (sw_bd (fX9_image N S1) (fun r2 S2 => (if r1 = r2 then (rec1 (i + (6 : Int32)) S2) else (some ((0 : Int32), S2))))))
theorem hL_c26 {G : sw_G} {b L N : Nat} {xs : Nat → Int32} {rec1 : Int32 → sw_St → Option (Int32 × sw_St)} (hrec1 : ∀ (i : Int32) (S : sw_St), sw_Rn G RL cL_law 4 ret room_1 128 sw_SL (sw_Zl G b L xs) 18 [some (.ref b), some (sw_vr G 0), some (sw_vr G 105), some (.int i)] [] S (rec1 i S)) (i : Int32) (S : sw_St) : sw_Rn G RL cL_law 4 ret room_1 128 sw_SL (sw_Zl G b L xs) 1016 [some (.ref b), some (sw_vr G 0), some (sw_vr G 105), some (.int i)] [] S (fL_c26 xs L N rec1 i S) := by
  unfold fL_c26
  refine sw_ald_4_1 (np := 1017) dL_law_1016 rfl ?_
  refine sw_cV0i (np := 1020) (hX8_image (d := 1000) (Nat.le_of_ble_eq_true rfl) ) sw_mv_X8_image sw_k_0 sw_wl_RL_121 dL_law_1017 (sw_fit_l (by decide)) (Nat.le_of_ble_eq_true rfl) rfl (fun r1 S1 => ?_)
  refine sw_ald_4_2 (np := 1021) dL_law_1020 rfl ?_
  refine sw_cV0i (np := 1024) (hX9_image (d := 1000) (Nat.le_of_ble_eq_true rfl) ) sw_mv_X9_image sw_k_105 sw_wl_RL_124 dL_law_1021 (sw_fit_l (by decide)) (Nat.le_of_ble_eq_true rfl) rfl (fun r2 S2 => ?_)
  refine sw_icmp_eq (np := 1027) (tp := 1459) dL_law_1024 rfl rfl ?_ ?_
  · refine sw_inc_4_3 (np := 1462) dL_law_1459 sw_ic_6 rfl rfl ?_
    refine sw_goto (tp := 18) dL_law_1462 rfl ?_
    exact hrec1 _ _
  · refine sw_iconst (np := 1028) dL_law_1027 sw_ic_0 rfl ?_
    exact sw_ret0 dL_law_1028
def fL_c27 (xs : Nat → Int32) (L N : Nat) (rec1 : Int32 → sw_St → Option (Int32 × sw_St)) (i : Int32) (S : sw_St) : Option (Int32 × sw_St) :=
  sw_bd (fX8_back N S) (fun r1 S1 => (sw_bd (fX9_back N S1) (fun r2 S2 => (if r1 = r2 then (rec1 (i + (6 : Int32)) S2) else (some ((0 : Int32), S2))))))
theorem hL_c27 {G : sw_G} {b L N : Nat} {xs : Nat → Int32} {rec1 : Int32 → sw_St → Option (Int32 × sw_St)} (hrec1 : ∀ (i : Int32) (S : sw_St), sw_Rn G RL cL_law 4 ret room_1 128 sw_SL (sw_Zl G b L xs) 18 [some (.ref b), some (sw_vr G 0), some (sw_vr G 105), some (.int i)] [] S (rec1 i S)) (i : Int32) (S : sw_St) : sw_Rn G RL cL_law 4 ret room_1 128 sw_SL (sw_Zl G b L xs) 1029 [some (.ref b), some (sw_vr G 0), some (sw_vr G 105), some (.int i)] [] S (fL_c27 xs L N rec1 i S) := by
  unfold fL_c27
  refine sw_ald_4_1 (np := 1030) dL_law_1029 rfl ?_
  refine sw_cV0i (np := 1033) (hX8_back (d := 1000) (Nat.le_of_ble_eq_true rfl) ) sw_mv_X8_back sw_k_0 sw_wl_RL_125 dL_law_1030 (sw_fit_l (by decide)) (Nat.le_of_ble_eq_true rfl) rfl (fun r1 S1 => ?_)
  refine sw_ald_4_2 (np := 1034) dL_law_1033 rfl ?_
  refine sw_cV0i (np := 1037) (hX9_back (d := 1000) (Nat.le_of_ble_eq_true rfl) ) sw_mv_X9_back sw_k_105 sw_wl_RL_128 dL_law_1034 (sw_fit_l (by decide)) (Nat.le_of_ble_eq_true rfl) rfl (fun r2 S2 => ?_)
  refine sw_icmp_eq (np := 1040) (tp := 1459) dL_law_1037 rfl rfl ?_ ?_
  · refine sw_inc_4_3 (np := 1462) dL_law_1459 sw_ic_6 rfl rfl ?_
    refine sw_goto (tp := 18) dL_law_1462 rfl ?_
    exact hrec1 _ _
  · refine sw_iconst (np := 1041) dL_law_1040 sw_ic_0 rfl ?_
    exact sw_ret0 dL_law_1041
def fL_c28 (xs : Nat → Int32) (L N : Nat) (rec1 : Int32 → sw_St → Option (Int32 × sw_St)) (i : Int32) (S : sw_St) : Option (Int32 × sw_St) :=
  sw_bd (fX8_undo N S) (fun r1 S1 => (sw_bd (fX9_undo N S1) (fun r2 S2 => (if r1 = r2 then (rec1 (i + (6 : Int32)) S2) else (some ((0 : Int32), S2))))))
theorem hL_c28 {G : sw_G} {b L N : Nat} {xs : Nat → Int32} {rec1 : Int32 → sw_St → Option (Int32 × sw_St)} (hrec1 : ∀ (i : Int32) (S : sw_St), sw_Rn G RL cL_law 4 ret room_1 128 sw_SL (sw_Zl G b L xs) 18 [some (.ref b), some (sw_vr G 0), some (sw_vr G 105), some (.int i)] [] S (rec1 i S)) (i : Int32) (S : sw_St) : sw_Rn G RL cL_law 4 ret room_1 128 sw_SL (sw_Zl G b L xs) 1042 [some (.ref b), some (sw_vr G 0), some (sw_vr G 105), some (.int i)] [] S (fL_c28 xs L N rec1 i S) := by
  unfold fL_c28
  refine sw_ald_4_1 (np := 1043) dL_law_1042 rfl ?_
  refine sw_cV0i (np := 1046) (hX8_undo (d := 1000) (Nat.le_of_ble_eq_true rfl) ) sw_mv_X8_undo sw_k_0 sw_wl_RL_129 dL_law_1043 (sw_fit_l (by decide)) (Nat.le_of_ble_eq_true rfl) rfl (fun r1 S1 => ?_)
  refine sw_ald_4_2 (np := 1047) dL_law_1046 rfl ?_
  refine sw_cV0i (np := 1050) (hX9_undo (d := 1000) (Nat.le_of_ble_eq_true rfl) ) sw_mv_X9_undo sw_k_105 sw_wl_RL_132 dL_law_1047 (sw_fit_l (by decide)) (Nat.le_of_ble_eq_true rfl) rfl (fun r2 S2 => ?_)
  refine sw_icmp_eq (np := 1053) (tp := 1459) dL_law_1050 rfl rfl ?_ ?_
  · refine sw_inc_4_3 (np := 1462) dL_law_1459 sw_ic_6 rfl rfl ?_
    refine sw_goto (tp := 18) dL_law_1462 rfl ?_
    exact hrec1 _ _
  · refine sw_iconst (np := 1054) dL_law_1053 sw_ic_0 rfl ?_
    exact sw_ret0 dL_law_1054
def fL_c29 (xs : Nat → Int32) (L N : Nat) (rec1 : Int32 → sw_St → Option (Int32 × sw_St)) (i : Int32) (S : sw_St) : Option (Int32 × sw_St) :=
  sw_bd (fX8_redo N S) (fun r1 S1 => (sw_bd (fX9_redo N S1) (fun r2 S2 => (if r1 = r2 then (rec1 (i + (6 : Int32)) S2) else (some ((0 : Int32), S2))))))
theorem hL_c29 {G : sw_G} {b L N : Nat} {xs : Nat → Int32} {rec1 : Int32 → sw_St → Option (Int32 × sw_St)} (hrec1 : ∀ (i : Int32) (S : sw_St), sw_Rn G RL cL_law 4 ret room_1 128 sw_SL (sw_Zl G b L xs) 18 [some (.ref b), some (sw_vr G 0), some (sw_vr G 105), some (.int i)] [] S (rec1 i S)) (i : Int32) (S : sw_St) : sw_Rn G RL cL_law 4 ret room_1 128 sw_SL (sw_Zl G b L xs) 1055 [some (.ref b), some (sw_vr G 0), some (sw_vr G 105), some (.int i)] [] S (fL_c29 xs L N rec1 i S) := by
  unfold fL_c29
  refine sw_ald_4_1 (np := 1056) dL_law_1055 rfl ?_
  refine sw_cV0i (np := 1059) (hX8_redo (d := 1000) (Nat.le_of_ble_eq_true rfl) ) sw_mv_X8_redo sw_k_0 sw_wl_RL_133 dL_law_1056 (sw_fit_l (by decide)) (Nat.le_of_ble_eq_true rfl) rfl (fun r1 S1 => ?_)
  refine sw_ald_4_2 (np := 1060) dL_law_1059 rfl ?_
  refine sw_cV0i (np := 1063) (hX9_redo (d := 1000) (Nat.le_of_ble_eq_true rfl) ) sw_mv_X9_redo sw_k_105 sw_wl_RL_136 dL_law_1060 (sw_fit_l (by decide)) (Nat.le_of_ble_eq_true rfl) rfl (fun r2 S2 => ?_)
  refine sw_icmp_eq (np := 1066) (tp := 1459) dL_law_1063 rfl rfl ?_ ?_
  · refine sw_inc_4_3 (np := 1462) dL_law_1459 sw_ic_6 rfl rfl ?_
    refine sw_goto (tp := 18) dL_law_1462 rfl ?_
    exact hrec1 _ _
  · refine sw_iconst (np := 1067) dL_law_1066 sw_ic_0 rfl ?_
    exact sw_ret0 dL_law_1067
def fL_c30 (xs : Nat → Int32) (L N : Nat) (rec1 : Int32 → sw_St → Option (Int32 × sw_St)) (i : Int32) (S : sw_St) : Option (Int32 × sw_St) :=
  sw_gd (sw_in (i + (1 : Int32)) L) (sw_bd (fX8_body N (xs (i + (1 : Int32)).toNatClampNeg) S) (fun r1 S1 => (sw_gd (sw_in (i + (1 : Int32)) L) (sw_bd (fX9_body N (xs (i + (1 : Int32)).toNatClampNeg) S1) (fun r2 S2 => (if r1 = r2 then (rec1 (i + (6 : Int32)) S2) else (some ((0 : Int32), S2))))))))
theorem hL_c30 {G : sw_G} {b L N : Nat} {xs : Nat → Int32} {rec1 : Int32 → sw_St → Option (Int32 × sw_St)} (hrec1 : ∀ (i : Int32) (S : sw_St), sw_Rn G RL cL_law 4 ret room_1 128 sw_SL (sw_Zl G b L xs) 18 [some (.ref b), some (sw_vr G 0), some (sw_vr G 105), some (.int i)] [] S (rec1 i S)) (i : Int32) (S : sw_St) : sw_Rn G RL cL_law 4 ret room_1 128 sw_SL (sw_Zl G b L xs) 1068 [some (.ref b), some (sw_vr G 0), some (sw_vr G 105), some (.int i)] [] S (fL_c30 xs L N rec1 i S) := by
  unfold fL_c30
  refine sw_ald_4_1 (np := 1069) dL_law_1068 rfl ?_
  refine sw_ald_4_0 (np := 1070) dL_law_1069 rfl ?_
  refine sw_ild_4_3 (np := 1071) dL_law_1070 rfl ?_
  refine sw_iconst (np := 1072) dL_law_1071 sw_ic_1 rfl ?_
  refine sw_iadd (np := 1073) dL_law_1072 rfl ?_
  refine sw_sld (np := 1074) dL_law_1073 rfl ?_
  refine sw_cV1i (np := 1077) (hX8_body (d := 1000) (Nat.le_of_ble_eq_true rfl) ) sw_mv_X8_body sw_k_0 sw_wl_RL_137 dL_law_1074 (sw_fit_l (by decide)) (Nat.le_of_ble_eq_true rfl) rfl (fun r1 S1 => ?_)
  refine sw_ald_4_2 (np := 1078) dL_law_1077 rfl ?_
  refine sw_ald_4_0 (np := 1079) dL_law_1078 rfl ?_
  refine sw_ild_4_3 (np := 1080) dL_law_1079 rfl ?_
  refine sw_iconst (np := 1081) dL_law_1080 sw_ic_1 rfl ?_
  refine sw_iadd (np := 1082) dL_law_1081 rfl ?_
  refine sw_sld (np := 1083) dL_law_1082 rfl ?_
  refine sw_cV1i (np := 1086) (hX9_body (d := 1000) (Nat.le_of_ble_eq_true rfl) ) sw_mv_X9_body sw_k_105 sw_wl_RL_140 dL_law_1083 (sw_fit_l (by decide)) (Nat.le_of_ble_eq_true rfl) rfl (fun r2 S2 => ?_)
  refine sw_icmp_eq (np := 1089) (tp := 1459) dL_law_1086 rfl rfl ?_ ?_
  · refine sw_inc_4_3 (np := 1462) dL_law_1459 sw_ic_6 rfl rfl ?_
    refine sw_goto (tp := 18) dL_law_1462 rfl ?_
    exact hrec1 _ _
  · refine sw_iconst (np := 1090) dL_law_1089 sw_ic_0 rfl ?_
    exact sw_ret0 dL_law_1090
def fL_c31 (xs : Nat → Int32) (L N : Nat) (rec1 : Int32 → sw_St → Option (Int32 × sw_St)) (i : Int32) (S : sw_St) : Option (Int32 × sw_St) :=
  sw_gd (sw_in (i + (1 : Int32)) L) (sw_gd (sw_in (i + (2 : Int32)) L) (sw_gd (sw_in (i + (3 : Int32)) L) (sw_bd (fX8_act N (xs (i + (1 : Int32)).toNatClampNeg) (xs (i + (2 : Int32)).toNatClampNeg) (xs (i + (3 : Int32)).toNatClampNeg) S) (fun r1 S1 => (sw_gd (sw_in (i + (1 : Int32)) L) (sw_gd (sw_in (i + (2 : Int32)) L) (sw_gd (sw_in (i + (3 : Int32)) L) (sw_bd (fX9_act N (xs (i + (1 : Int32)).toNatClampNeg) (xs (i + (2 : Int32)).toNatClampNeg) (xs (i + (3 : Int32)).toNatClampNeg) S1) (fun r2 S2 => (if r1 = r2 then (rec1 (i + (6 : Int32)) S2) else (some ((0 : Int32), S2))))))))))))
theorem hL_c31 {G : sw_G} {b L N : Nat} {xs : Nat → Int32} {rec1 : Int32 → sw_St → Option (Int32 × sw_St)} (hrec1 : ∀ (i : Int32) (S : sw_St), sw_Rn G RL cL_law 4 ret room_1 128 sw_SL (sw_Zl G b L xs) 18 [some (.ref b), some (sw_vr G 0), some (sw_vr G 105), some (.int i)] [] S (rec1 i S)) (i : Int32) (S : sw_St) : sw_Rn G RL cL_law 4 ret room_1 128 sw_SL (sw_Zl G b L xs) 1091 [some (.ref b), some (sw_vr G 0), some (sw_vr G 105), some (.int i)] [] S (fL_c31 xs L N rec1 i S) := by
  unfold fL_c31
  refine sw_ald_4_1 (np := 1092) dL_law_1091 rfl ?_
  refine sw_ald_4_0 (np := 1093) dL_law_1092 rfl ?_
  refine sw_ild_4_3 (np := 1094) dL_law_1093 rfl ?_
  refine sw_iconst (np := 1095) dL_law_1094 sw_ic_1 rfl ?_
  refine sw_iadd (np := 1096) dL_law_1095 rfl ?_
  refine sw_sld (np := 1097) dL_law_1096 rfl ?_
  refine sw_ald_4_0 (np := 1098) dL_law_1097 rfl ?_
  refine sw_ild_4_3 (np := 1099) dL_law_1098 rfl ?_
  refine sw_iconst (np := 1100) dL_law_1099 sw_ic_2 rfl ?_
  refine sw_iadd (np := 1101) dL_law_1100 rfl ?_
  refine sw_sld (np := 1102) dL_law_1101 rfl ?_
  refine sw_ald_4_0 (np := 1103) dL_law_1102 rfl ?_
  refine sw_ild_4_3 (np := 1104) dL_law_1103 rfl ?_
  refine sw_iconst (np := 1105) dL_law_1104 sw_ic_3 rfl ?_
  refine sw_iadd (np := 1106) dL_law_1105 rfl ?_
  refine sw_sld (np := 1107) dL_law_1106 rfl ?_
  refine sw_cV3i (np := 1110) (hX8_act (d := 1000) (Nat.le_of_ble_eq_true rfl) ) sw_mv_X8_act sw_k_0 sw_wl_RL_141 dL_law_1107 (sw_fit_l (by decide)) (Nat.le_of_ble_eq_true rfl) rfl (fun r1 S1 => ?_)
  refine sw_ald_4_2 (np := 1111) dL_law_1110 rfl ?_
  refine sw_ald_4_0 (np := 1112) dL_law_1111 rfl ?_
  refine sw_ild_4_3 (np := 1113) dL_law_1112 rfl ?_
  refine sw_iconst (np := 1114) dL_law_1113 sw_ic_1 rfl ?_
  refine sw_iadd (np := 1115) dL_law_1114 rfl ?_
  refine sw_sld (np := 1116) dL_law_1115 rfl ?_
  refine sw_ald_4_0 (np := 1117) dL_law_1116 rfl ?_
  refine sw_ild_4_3 (np := 1118) dL_law_1117 rfl ?_
  refine sw_iconst (np := 1119) dL_law_1118 sw_ic_2 rfl ?_
  refine sw_iadd (np := 1120) dL_law_1119 rfl ?_
  refine sw_sld (np := 1121) dL_law_1120 rfl ?_
  refine sw_ald_4_0 (np := 1122) dL_law_1121 rfl ?_
  refine sw_ild_4_3 (np := 1123) dL_law_1122 rfl ?_
  refine sw_iconst (np := 1124) dL_law_1123 sw_ic_3 rfl ?_
  refine sw_iadd (np := 1125) dL_law_1124 rfl ?_
  refine sw_sld (np := 1126) dL_law_1125 rfl ?_
  refine sw_cV3i (np := 1129) (hX9_act (d := 1000) (Nat.le_of_ble_eq_true rfl) ) sw_mv_X9_act sw_k_105 sw_wl_RL_144 dL_law_1126 (sw_fit_l (by decide)) (Nat.le_of_ble_eq_true rfl) rfl (fun r2 S2 => ?_)
  refine sw_icmp_eq (np := 1132) (tp := 1459) dL_law_1129 rfl rfl ?_ ?_
  · refine sw_inc_4_3 (np := 1462) dL_law_1459 sw_ic_6 rfl rfl ?_
    refine sw_goto (tp := 18) dL_law_1462 rfl ?_
    exact hrec1 _ _
  · refine sw_iconst (np := 1133) dL_law_1132 sw_ic_0 rfl ?_
    exact sw_ret0 dL_law_1133
def fL_c32 (xs : Nat → Int32) (L N : Nat) (rec1 : Int32 → sw_St → Option (Int32 × sw_St)) (i : Int32) (S : sw_St) : Option (Int32 × sw_St) :=
  sw_gd (sw_in (i + (1 : Int32)) L) (sw_bd (fX8_trace N (xs (i + (1 : Int32)).toNatClampNeg) S) (fun r1 S1 => (sw_gd (sw_in (i + (1 : Int32)) L) (sw_bd (fX9_trace N (xs (i + (1 : Int32)).toNatClampNeg) S1) (fun r2 S2 => (if r1 = r2 then (rec1 (i + (6 : Int32)) S2) else (some ((0 : Int32), S2))))))))
theorem hL_c32 {G : sw_G} {b L N : Nat} {xs : Nat → Int32} {rec1 : Int32 → sw_St → Option (Int32 × sw_St)} (hrec1 : ∀ (i : Int32) (S : sw_St), sw_Rn G RL cL_law 4 ret room_1 128 sw_SL (sw_Zl G b L xs) 18 [some (.ref b), some (sw_vr G 0), some (sw_vr G 105), some (.int i)] [] S (rec1 i S)) (i : Int32) (S : sw_St) : sw_Rn G RL cL_law 4 ret room_1 128 sw_SL (sw_Zl G b L xs) 1134 [some (.ref b), some (sw_vr G 0), some (sw_vr G 105), some (.int i)] [] S (fL_c32 xs L N rec1 i S) := by
  unfold fL_c32
  refine sw_ald_4_1 (np := 1135) dL_law_1134 rfl ?_
  refine sw_ald_4_0 (np := 1136) dL_law_1135 rfl ?_
  refine sw_ild_4_3 (np := 1137) dL_law_1136 rfl ?_
  refine sw_iconst (np := 1138) dL_law_1137 sw_ic_1 rfl ?_
  refine sw_iadd (np := 1139) dL_law_1138 rfl ?_
  refine sw_sld (np := 1140) dL_law_1139 rfl ?_
  refine sw_cV1i (np := 1143) (hX8_trace (d := 1000) (Nat.le_of_ble_eq_true rfl) ) sw_mv_X8_trace sw_k_0 sw_wl_RL_145 dL_law_1140 (sw_fit_l (by decide)) (Nat.le_of_ble_eq_true rfl) rfl (fun r1 S1 => ?_)
  refine sw_ald_4_2 (np := 1144) dL_law_1143 rfl ?_
  refine sw_ald_4_0 (np := 1145) dL_law_1144 rfl ?_
  refine sw_ild_4_3 (np := 1146) dL_law_1145 rfl ?_
  refine sw_iconst (np := 1147) dL_law_1146 sw_ic_1 rfl ?_
  refine sw_iadd (np := 1148) dL_law_1147 rfl ?_
  refine sw_sld (np := 1149) dL_law_1148 rfl ?_
  refine sw_cV1i (np := 1152) (hX9_trace (d := 1000) (Nat.le_of_ble_eq_true rfl) ) sw_mv_X9_trace sw_k_105 sw_wl_RL_148 dL_law_1149 (sw_fit_l (by decide)) (Nat.le_of_ble_eq_true rfl) rfl (fun r2 S2 => ?_)
  refine sw_icmp_eq (np := 1155) (tp := 1459) dL_law_1152 rfl rfl ?_ ?_
  · refine sw_inc_4_3 (np := 1462) dL_law_1459 sw_ic_6 rfl rfl ?_
    refine sw_goto (tp := 18) dL_law_1462 rfl ?_
    exact hrec1 _ _
  · refine sw_iconst (np := 1156) dL_law_1155 sw_ic_0 rfl ?_
    exact sw_ret0 dL_law_1156
def fL_c33 (xs : Nat → Int32) (L N : Nat) (rec1 : Int32 → sw_St → Option (Int32 × sw_St)) (i : Int32) (S : sw_St) : Option (Int32 × sw_St) :=
  sw_gd (sw_in (i + (1 : Int32)) L) (sw_gd (sw_in (i + (2 : Int32)) L) (sw_bd (fX8_keep N (xs (i + (1 : Int32)).toNatClampNeg) (xs (i + (2 : Int32)).toNatClampNeg) S) (fun r1 S1 => (sw_gd (sw_in (i + (1 : Int32)) L) (sw_gd (sw_in (i + (2 : Int32)) L) (sw_bd (fX9_keep N (xs (i + (1 : Int32)).toNatClampNeg) (xs (i + (2 : Int32)).toNatClampNeg) S1) (fun r2 S2 => (if r1 = r2 then (rec1 (i + (6 : Int32)) S2) else (some ((0 : Int32), S2))))))))))
theorem hL_c33 {G : sw_G} {b L N : Nat} {xs : Nat → Int32} {rec1 : Int32 → sw_St → Option (Int32 × sw_St)} (hrec1 : ∀ (i : Int32) (S : sw_St), sw_Rn G RL cL_law 4 ret room_1 128 sw_SL (sw_Zl G b L xs) 18 [some (.ref b), some (sw_vr G 0), some (sw_vr G 105), some (.int i)] [] S (rec1 i S)) (i : Int32) (S : sw_St) : sw_Rn G RL cL_law 4 ret room_1 128 sw_SL (sw_Zl G b L xs) 1157 [some (.ref b), some (sw_vr G 0), some (sw_vr G 105), some (.int i)] [] S (fL_c33 xs L N rec1 i S) := by
  unfold fL_c33
  refine sw_ald_4_1 (np := 1158) dL_law_1157 rfl ?_
  refine sw_ald_4_0 (np := 1159) dL_law_1158 rfl ?_
  refine sw_ild_4_3 (np := 1160) dL_law_1159 rfl ?_
  refine sw_iconst (np := 1161) dL_law_1160 sw_ic_1 rfl ?_
  refine sw_iadd (np := 1162) dL_law_1161 rfl ?_
  refine sw_sld (np := 1163) dL_law_1162 rfl ?_
  refine sw_ald_4_0 (np := 1164) dL_law_1163 rfl ?_
  refine sw_ild_4_3 (np := 1165) dL_law_1164 rfl ?_
  refine sw_iconst (np := 1166) dL_law_1165 sw_ic_2 rfl ?_
  refine sw_iadd (np := 1167) dL_law_1166 rfl ?_
  refine sw_sld (np := 1168) dL_law_1167 rfl ?_
  refine sw_cV2i (np := 1171) (hX8_keep (d := 1000) (Nat.le_of_ble_eq_true rfl) ) sw_mv_X8_keep sw_k_0 sw_wl_RL_149 dL_law_1168 (sw_fit_l (by decide)) (Nat.le_of_ble_eq_true rfl) rfl (fun r1 S1 => ?_)
  refine sw_ald_4_2 (np := 1172) dL_law_1171 rfl ?_
  refine sw_ald_4_0 (np := 1173) dL_law_1172 rfl ?_
  refine sw_ild_4_3 (np := 1174) dL_law_1173 rfl ?_
  refine sw_iconst (np := 1175) dL_law_1174 sw_ic_1 rfl ?_
  refine sw_iadd (np := 1176) dL_law_1175 rfl ?_
  refine sw_sld (np := 1177) dL_law_1176 rfl ?_
  refine sw_ald_4_0 (np := 1178) dL_law_1177 rfl ?_
  refine sw_ild_4_3 (np := 1179) dL_law_1178 rfl ?_
  refine sw_iconst (np := 1180) dL_law_1179 sw_ic_2 rfl ?_
  refine sw_iadd (np := 1181) dL_law_1180 rfl ?_
  refine sw_sld (np := 1182) dL_law_1181 rfl ?_
  refine sw_cV2i (np := 1185) (hX9_keep (d := 1000) (Nat.le_of_ble_eq_true rfl) ) sw_mv_X9_keep sw_k_105 sw_wl_RL_152 dL_law_1182 (sw_fit_l (by decide)) (Nat.le_of_ble_eq_true rfl) rfl (fun r2 S2 => ?_)
  refine sw_icmp_eq (np := 1188) (tp := 1459) dL_law_1185 rfl rfl ?_ ?_
  · refine sw_inc_4_3 (np := 1462) dL_law_1459 sw_ic_6 rfl rfl ?_
    refine sw_goto (tp := 18) dL_law_1462 rfl ?_
    exact hrec1 _ _
  · refine sw_iconst (np := 1189) dL_law_1188 sw_ic_0 rfl ?_
    exact sw_ret0 dL_law_1189
def fL_c34 (xs : Nat → Int32) (L N : Nat) (rec1 : Int32 → sw_St → Option (Int32 × sw_St)) (i : Int32) (S : sw_St) : Option (Int32 × sw_St) :=
  sw_gd (sw_in (i + (1 : Int32)) L) (sw_gd (sw_in (i + (2 : Int32)) L) (sw_gd (sw_in (i + (3 : Int32)) L) (sw_bd (fX8_row N (xs (i + (1 : Int32)).toNatClampNeg) (xs (i + (2 : Int32)).toNatClampNeg) (xs (i + (3 : Int32)).toNatClampNeg) S) (fun r1 S1 => (sw_gd (sw_in (i + (1 : Int32)) L) (sw_gd (sw_in (i + (2 : Int32)) L) (sw_gd (sw_in (i + (3 : Int32)) L) (sw_bd (fX9_row N (xs (i + (1 : Int32)).toNatClampNeg) (xs (i + (2 : Int32)).toNatClampNeg) (xs (i + (3 : Int32)).toNatClampNeg) S1) (fun r2 S2 => (if r1 = r2 then (rec1 (i + (6 : Int32)) S2) else (some ((0 : Int32), S2))))))))))))
theorem hL_c34 {G : sw_G} {b L N : Nat} {xs : Nat → Int32} {rec1 : Int32 → sw_St → Option (Int32 × sw_St)} (hrec1 : ∀ (i : Int32) (S : sw_St), sw_Rn G RL cL_law 4 ret room_1 128 sw_SL (sw_Zl G b L xs) 18 [some (.ref b), some (sw_vr G 0), some (sw_vr G 105), some (.int i)] [] S (rec1 i S)) (i : Int32) (S : sw_St) : sw_Rn G RL cL_law 4 ret room_1 128 sw_SL (sw_Zl G b L xs) 1190 [some (.ref b), some (sw_vr G 0), some (sw_vr G 105), some (.int i)] [] S (fL_c34 xs L N rec1 i S) := by
  unfold fL_c34
  refine sw_ald_4_1 (np := 1191) dL_law_1190 rfl ?_
  refine sw_ald_4_0 (np := 1192) dL_law_1191 rfl ?_
  refine sw_ild_4_3 (np := 1193) dL_law_1192 rfl ?_
  refine sw_iconst (np := 1194) dL_law_1193 sw_ic_1 rfl ?_
  refine sw_iadd (np := 1195) dL_law_1194 rfl ?_
  refine sw_sld (np := 1196) dL_law_1195 rfl ?_
  refine sw_ald_4_0 (np := 1197) dL_law_1196 rfl ?_
  refine sw_ild_4_3 (np := 1198) dL_law_1197 rfl ?_
  refine sw_iconst (np := 1199) dL_law_1198 sw_ic_2 rfl ?_
  refine sw_iadd (np := 1200) dL_law_1199 rfl ?_
  refine sw_sld (np := 1201) dL_law_1200 rfl ?_
  refine sw_ald_4_0 (np := 1202) dL_law_1201 rfl ?_
  refine sw_ild_4_3 (np := 1203) dL_law_1202 rfl ?_
  refine sw_iconst (np := 1204) dL_law_1203 sw_ic_3 rfl ?_
  refine sw_iadd (np := 1205) dL_law_1204 rfl ?_
  refine sw_sld (np := 1206) dL_law_1205 rfl ?_
  refine sw_cV3i (np := 1209) (hX8_row (d := 1000) (Nat.le_of_ble_eq_true rfl) ) sw_mv_X8_row sw_k_0 sw_wl_RL_153 dL_law_1206 (sw_fit_l (by decide)) (Nat.le_of_ble_eq_true rfl) rfl (fun r1 S1 => ?_)
  refine sw_ald_4_2 (np := 1210) dL_law_1209 rfl ?_
  refine sw_ald_4_0 (np := 1211) dL_law_1210 rfl ?_
  refine sw_ild_4_3 (np := 1212) dL_law_1211 rfl ?_
  refine sw_iconst (np := 1213) dL_law_1212 sw_ic_1 rfl ?_
  refine sw_iadd (np := 1214) dL_law_1213 rfl ?_
  refine sw_sld (np := 1215) dL_law_1214 rfl ?_
  refine sw_ald_4_0 (np := 1216) dL_law_1215 rfl ?_
  refine sw_ild_4_3 (np := 1217) dL_law_1216 rfl ?_
  refine sw_iconst (np := 1218) dL_law_1217 sw_ic_2 rfl ?_
  refine sw_iadd (np := 1219) dL_law_1218 rfl ?_
  refine sw_sld (np := 1220) dL_law_1219 rfl ?_
  refine sw_ald_4_0 (np := 1221) dL_law_1220 rfl ?_
  refine sw_ild_4_3 (np := 1222) dL_law_1221 rfl ?_
  refine sw_iconst (np := 1223) dL_law_1222 sw_ic_3 rfl ?_
  refine sw_iadd (np := 1224) dL_law_1223 rfl ?_
  refine sw_sld (np := 1225) dL_law_1224 rfl ?_
  refine sw_cV3i (np := 1228) (hX9_row (d := 1000) (Nat.le_of_ble_eq_true rfl) ) sw_mv_X9_row sw_k_105 sw_wl_RL_156 dL_law_1225 (sw_fit_l (by decide)) (Nat.le_of_ble_eq_true rfl) rfl (fun r2 S2 => ?_)
  refine sw_icmp_eq (np := 1231) (tp := 1459) dL_law_1228 rfl rfl ?_ ?_
  · refine sw_inc_4_3 (np := 1462) dL_law_1459 sw_ic_6 rfl rfl ?_
    refine sw_goto (tp := 18) dL_law_1462 rfl ?_
    exact hrec1 _ _
  · refine sw_iconst (np := 1232) dL_law_1231 sw_ic_0 rfl ?_
    exact sw_ret0 dL_law_1232
def fL_c35 (xs : Nat → Int32) (L N : Nat) (rec1 : Int32 → sw_St → Option (Int32 × sw_St)) (i : Int32) (S : sw_St) : Option (Int32 × sw_St) :=
  sw_gd (sw_in (i + (1 : Int32)) L) (sw_gd (sw_in (i + (2 : Int32)) L) (sw_gd (sw_in (i + (3 : Int32)) L) (sw_gd (sw_in (i + (4 : Int32)) L) (sw_bd (fX8_put N (xs (i + (1 : Int32)).toNatClampNeg) (xs (i + (2 : Int32)).toNatClampNeg) ((((xs (i + (3 : Int32)).toNatClampNeg).toInt64) <<< ((32 : Int32).toInt64 &&& 63)) ||| (((xs (i + (4 : Int32)).toNatClampNeg).toInt64) &&& (4294967295 : Int64))) S) (fun r1 S1 => (sw_gd (sw_in (i + (1 : Int32)) L) (sw_gd (sw_in (i + (2 : Int32)) L) (sw_gd (sw_in (i + (3 : Int32)) L) (sw_gd (sw_in (i + (4 : Int32)) L) (sw_bd (fX9_put N (xs (i + (1 : Int32)).toNatClampNeg) (xs (i + (2 : Int32)).toNatClampNeg) ((((xs (i + (3 : Int32)).toNatClampNeg).toInt64) <<< ((32 : Int32).toInt64 &&& 63)) ||| (((xs (i + (4 : Int32)).toNatClampNeg).toInt64) &&& (4294967295 : Int64))) S1) (fun r2 S2 => (if r1 = r2 then (rec1 (i + (6 : Int32)) S2) else (some ((0 : Int32), S2))))))))))))))
theorem hL_c35 {G : sw_G} {b L N : Nat} {xs : Nat → Int32} {rec1 : Int32 → sw_St → Option (Int32 × sw_St)} (hrec1 : ∀ (i : Int32) (S : sw_St), sw_Rn G RL cL_law 4 ret room_1 128 sw_SL (sw_Zl G b L xs) 18 [some (.ref b), some (sw_vr G 0), some (sw_vr G 105), some (.int i)] [] S (rec1 i S)) (i : Int32) (S : sw_St) : sw_Rn G RL cL_law 4 ret room_1 128 sw_SL (sw_Zl G b L xs) 1233 [some (.ref b), some (sw_vr G 0), some (sw_vr G 105), some (.int i)] [] S (fL_c35 xs L N rec1 i S) := by
  unfold fL_c35
  refine sw_ald_4_1 (np := 1234) dL_law_1233 rfl ?_
  refine sw_ald_4_0 (np := 1235) dL_law_1234 rfl ?_
  refine sw_ild_4_3 (np := 1236) dL_law_1235 rfl ?_
  refine sw_iconst (np := 1237) dL_law_1236 sw_ic_1 rfl ?_
  refine sw_iadd (np := 1238) dL_law_1237 rfl ?_
  refine sw_sld (np := 1239) dL_law_1238 rfl ?_
  refine sw_ald_4_0 (np := 1240) dL_law_1239 rfl ?_
  refine sw_ild_4_3 (np := 1241) dL_law_1240 rfl ?_
  refine sw_iconst (np := 1242) dL_law_1241 sw_ic_2 rfl ?_
  refine sw_iadd (np := 1243) dL_law_1242 rfl ?_
  refine sw_sld (np := 1244) dL_law_1243 rfl ?_
  refine sw_ald_4_0 (np := 1245) dL_law_1244 rfl ?_
  refine sw_ild_4_3 (np := 1246) dL_law_1245 rfl ?_
  refine sw_iconst (np := 1247) dL_law_1246 sw_ic_3 rfl ?_
  refine sw_iadd (np := 1248) dL_law_1247 rfl ?_
  refine sw_sld (np := 1249) dL_law_1248 rfl ?_
  refine sw_i2l (np := 1250) dL_law_1249 rfl ?_
  refine sw_bipush (np := 1252) dL_law_1250 sw_bc_32 rfl ?_
  refine sw_lshl (np := 1253) dL_law_1252 rfl ?_
  refine sw_ald_4_0 (np := 1254) dL_law_1253 rfl ?_
  refine sw_ild_4_3 (np := 1255) dL_law_1254 rfl ?_
  refine sw_iconst (np := 1256) dL_law_1255 sw_ic_4 rfl ?_
  refine sw_iadd (np := 1257) dL_law_1256 rfl ?_
  refine sw_sld (np := 1258) dL_law_1257 rfl ?_
  refine sw_i2l (np := 1259) dL_law_1258 rfl ?_
  refine sw_ldc2 (np := 1262) sw_wc_RL_157 dL_law_1259 rfl ?_
  refine sw_land (np := 1263) dL_law_1262 rfl ?_
  refine sw_lor (np := 1264) dL_law_1263 rfl ?_
  refine sw_cV3i (np := 1267) (hX8_put (d := 1000) (Nat.le_of_ble_eq_true rfl) ) sw_mv_X8_put sw_k_0 sw_wl_RL_159 dL_law_1264 (sw_fit_l (by decide)) (Nat.le_of_ble_eq_true rfl) rfl (fun r1 S1 => ?_)
  refine sw_ald_4_2 (np := 1268) dL_law_1267 rfl ?_
  refine sw_ald_4_0 (np := 1269) dL_law_1268 rfl ?_
  refine sw_ild_4_3 (np := 1270) dL_law_1269 rfl ?_
  refine sw_iconst (np := 1271) dL_law_1270 sw_ic_1 rfl ?_
  refine sw_iadd (np := 1272) dL_law_1271 rfl ?_
  refine sw_sld (np := 1273) dL_law_1272 rfl ?_
  refine sw_ald_4_0 (np := 1274) dL_law_1273 rfl ?_
  refine sw_ild_4_3 (np := 1275) dL_law_1274 rfl ?_
  refine sw_iconst (np := 1276) dL_law_1275 sw_ic_2 rfl ?_
  refine sw_iadd (np := 1277) dL_law_1276 rfl ?_
  refine sw_sld (np := 1278) dL_law_1277 rfl ?_
  refine sw_ald_4_0 (np := 1279) dL_law_1278 rfl ?_
  refine sw_ild_4_3 (np := 1280) dL_law_1279 rfl ?_
  refine sw_iconst (np := 1281) dL_law_1280 sw_ic_3 rfl ?_
  refine sw_iadd (np := 1282) dL_law_1281 rfl ?_
  refine sw_sld (np := 1283) dL_law_1282 rfl ?_
  refine sw_i2l (np := 1284) dL_law_1283 rfl ?_
  refine sw_bipush (np := 1286) dL_law_1284 sw_bc_32 rfl ?_
  refine sw_lshl (np := 1287) dL_law_1286 rfl ?_
  refine sw_ald_4_0 (np := 1288) dL_law_1287 rfl ?_
  refine sw_ild_4_3 (np := 1289) dL_law_1288 rfl ?_
  refine sw_iconst (np := 1290) dL_law_1289 sw_ic_4 rfl ?_
  refine sw_iadd (np := 1291) dL_law_1290 rfl ?_
  refine sw_sld (np := 1292) dL_law_1291 rfl ?_
  refine sw_i2l (np := 1293) dL_law_1292 rfl ?_
  refine sw_ldc2 (np := 1296) sw_wc_RL_157 dL_law_1293 rfl ?_
  refine sw_land (np := 1297) dL_law_1296 rfl ?_
  refine sw_lor (np := 1298) dL_law_1297 rfl ?_
  refine sw_cV3i (np := 1301) (hX9_put (d := 1000) (Nat.le_of_ble_eq_true rfl) ) sw_mv_X9_put sw_k_105 sw_wl_RL_163 dL_law_1298 (sw_fit_l (by decide)) (Nat.le_of_ble_eq_true rfl) rfl (fun r2 S2 => ?_)
  refine sw_icmp_eq (np := 1304) (tp := 1459) dL_law_1301 rfl rfl ?_ ?_
  · refine sw_inc_4_3 (np := 1462) dL_law_1459 sw_ic_6 rfl rfl ?_
    refine sw_goto (tp := 18) dL_law_1462 rfl ?_
    exact hrec1 _ _
  · refine sw_iconst (np := 1305) dL_law_1304 sw_ic_0 rfl ?_
    exact sw_ret0 dL_law_1305
def fL_c36 (xs : Nat → Int32) (L N : Nat) (rec1 : Int32 → sw_St → Option (Int32 × sw_St)) (i : Int32) (S : sw_St) : Option (Int32 × sw_St) :=
  sw_gd (sw_in (i + (1 : Int32)) L) (sw_gd (sw_in (i + (2 : Int32)) L) (sw_bd (fX8_element N (xs (i + (1 : Int32)).toNatClampNeg) (xs (i + (2 : Int32)).toNatClampNeg) S) (fun r1 S1 => (sw_gd (sw_in (i + (1 : Int32)) L) (sw_gd (sw_in (i + (2 : Int32)) L) (sw_bd (fX9_element N (xs (i + (1 : Int32)).toNatClampNeg) (xs (i + (2 : Int32)).toNatClampNeg) S1) (fun r2 S2 => (if (lg_cmp r1 r2) = 0 then (rec1 (i + (6 : Int32)) S2) else (some ((0 : Int32), S2))))))))))
theorem hL_c36 {G : sw_G} {b L N : Nat} {xs : Nat → Int32} {rec1 : Int32 → sw_St → Option (Int32 × sw_St)} (hrec1 : ∀ (i : Int32) (S : sw_St), sw_Rn G RL cL_law 4 ret room_1 128 sw_SL (sw_Zl G b L xs) 18 [some (.ref b), some (sw_vr G 0), some (sw_vr G 105), some (.int i)] [] S (rec1 i S)) (i : Int32) (S : sw_St) : sw_Rn G RL cL_law 4 ret room_1 128 sw_SL (sw_Zl G b L xs) 1306 [some (.ref b), some (sw_vr G 0), some (sw_vr G 105), some (.int i)] [] S (fL_c36 xs L N rec1 i S) := by
  unfold fL_c36
  refine sw_ald_4_1 (np := 1307) dL_law_1306 rfl ?_
  refine sw_ald_4_0 (np := 1308) dL_law_1307 rfl ?_
  refine sw_ild_4_3 (np := 1309) dL_law_1308 rfl ?_
  refine sw_iconst (np := 1310) dL_law_1309 sw_ic_1 rfl ?_
  refine sw_iadd (np := 1311) dL_law_1310 rfl ?_
  refine sw_sld (np := 1312) dL_law_1311 rfl ?_
  refine sw_ald_4_0 (np := 1313) dL_law_1312 rfl ?_
  refine sw_ild_4_3 (np := 1314) dL_law_1313 rfl ?_
  refine sw_iconst (np := 1315) dL_law_1314 sw_ic_2 rfl ?_
  refine sw_iadd (np := 1316) dL_law_1315 rfl ?_
  refine sw_sld (np := 1317) dL_law_1316 rfl ?_
  refine sw_cV2l (np := 1320) (hX8_element (d := 1000) (Nat.le_of_ble_eq_true rfl) ) sw_mv_X8_element sw_k_0 sw_wl_RL_164 dL_law_1317 (sw_fit_l (by decide)) (Nat.le_of_ble_eq_true rfl) rfl (fun r1 S1 => ?_)
  refine sw_ald_4_2 (np := 1321) dL_law_1320 rfl ?_
  refine sw_ald_4_0 (np := 1322) dL_law_1321 rfl ?_
  refine sw_ild_4_3 (np := 1323) dL_law_1322 rfl ?_
  refine sw_iconst (np := 1324) dL_law_1323 sw_ic_1 rfl ?_
  refine sw_iadd (np := 1325) dL_law_1324 rfl ?_
  refine sw_sld (np := 1326) dL_law_1325 rfl ?_
  refine sw_ald_4_0 (np := 1327) dL_law_1326 rfl ?_
  refine sw_ild_4_3 (np := 1328) dL_law_1327 rfl ?_
  refine sw_iconst (np := 1329) dL_law_1328 sw_ic_2 rfl ?_
  refine sw_iadd (np := 1330) dL_law_1329 rfl ?_
  refine sw_sld (np := 1331) dL_law_1330 rfl ?_
  refine sw_cV2l (np := 1334) (hX9_element (d := 1000) (Nat.le_of_ble_eq_true rfl) ) sw_mv_X9_element sw_k_105 sw_wl_RL_168 dL_law_1331 (sw_fit_l (by decide)) (Nat.le_of_ble_eq_true rfl) rfl (fun r2 S2 => ?_)
  refine sw_lcmp (np := 1335) dL_law_1334 rfl ?_
  refine sw_if_eq (np := 1338) (tp := 1459) dL_law_1335 rfl rfl ?_ ?_
  · refine sw_inc_4_3 (np := 1462) dL_law_1459 sw_ic_6 rfl rfl ?_
    refine sw_goto (tp := 18) dL_law_1462 rfl ?_
    exact hrec1 _ _
  · refine sw_iconst (np := 1339) dL_law_1338 sw_ic_0 rfl ?_
    exact sw_ret0 dL_law_1339
def fL_c37 (xs : Nat → Int32) (L N : Nat) (rec1 : Int32 → sw_St → Option (Int32 × sw_St)) (i : Int32) (S : sw_St) : Option (Int32 × sw_St) :=
  sw_gd (sw_in (i + (1 : Int32)) L) (sw_gd (sw_in (i + (2 : Int32)) L) (sw_gd (sw_in (i + (3 : Int32)) L) (sw_gd (sw_in (i + (4 : Int32)) L) (sw_gd (sw_in (i + (5 : Int32)) L) (sw_bd (fX8_shift N (xs (i + (1 : Int32)).toNatClampNeg) (xs (i + (2 : Int32)).toNatClampNeg) (xs (i + (3 : Int32)).toNatClampNeg) (xs (i + (4 : Int32)).toNatClampNeg) (xs (i + (5 : Int32)).toNatClampNeg) S) (fun r1 S1 => (sw_gd (sw_in (i + (1 : Int32)) L) (sw_gd (sw_in (i + (2 : Int32)) L) (sw_gd (sw_in (i + (3 : Int32)) L) (sw_gd (sw_in (i + (4 : Int32)) L) (sw_gd (sw_in (i + (5 : Int32)) L) (sw_bd (fX9_shift N (xs (i + (1 : Int32)).toNatClampNeg) (xs (i + (2 : Int32)).toNatClampNeg) (xs (i + (3 : Int32)).toNatClampNeg) (xs (i + (4 : Int32)).toNatClampNeg) (xs (i + (5 : Int32)).toNatClampNeg) S1) (fun r2 S2 => (if r1 = r2 then (rec1 (i + (6 : Int32)) S2) else (some ((0 : Int32), S2))))))))))))))))
theorem hL_c37 {G : sw_G} {b L N : Nat} {xs : Nat → Int32} {rec1 : Int32 → sw_St → Option (Int32 × sw_St)} (hrec1 : ∀ (i : Int32) (S : sw_St), sw_Rn G RL cL_law 4 ret room_1 128 sw_SL (sw_Zl G b L xs) 18 [some (.ref b), some (sw_vr G 0), some (sw_vr G 105), some (.int i)] [] S (rec1 i S)) (i : Int32) (S : sw_St) : sw_Rn G RL cL_law 4 ret room_1 128 sw_SL (sw_Zl G b L xs) 1340 [some (.ref b), some (sw_vr G 0), some (sw_vr G 105), some (.int i)] [] S (fL_c37 xs L N rec1 i S) := by
  unfold fL_c37
  refine sw_ald_4_1 (np := 1341) dL_law_1340 rfl ?_
  refine sw_ald_4_0 (np := 1342) dL_law_1341 rfl ?_
  refine sw_ild_4_3 (np := 1343) dL_law_1342 rfl ?_
  refine sw_iconst (np := 1344) dL_law_1343 sw_ic_1 rfl ?_
  refine sw_iadd (np := 1345) dL_law_1344 rfl ?_
  refine sw_sld (np := 1346) dL_law_1345 rfl ?_
  refine sw_ald_4_0 (np := 1347) dL_law_1346 rfl ?_
  refine sw_ild_4_3 (np := 1348) dL_law_1347 rfl ?_
  refine sw_iconst (np := 1349) dL_law_1348 sw_ic_2 rfl ?_
  refine sw_iadd (np := 1350) dL_law_1349 rfl ?_
  refine sw_sld (np := 1351) dL_law_1350 rfl ?_
  refine sw_ald_4_0 (np := 1352) dL_law_1351 rfl ?_
  refine sw_ild_4_3 (np := 1353) dL_law_1352 rfl ?_
  refine sw_iconst (np := 1354) dL_law_1353 sw_ic_3 rfl ?_
  refine sw_iadd (np := 1355) dL_law_1354 rfl ?_
  refine sw_sld (np := 1356) dL_law_1355 rfl ?_
  refine sw_ald_4_0 (np := 1357) dL_law_1356 rfl ?_
  refine sw_ild_4_3 (np := 1358) dL_law_1357 rfl ?_
  refine sw_iconst (np := 1359) dL_law_1358 sw_ic_4 rfl ?_
  refine sw_iadd (np := 1360) dL_law_1359 rfl ?_
  refine sw_sld (np := 1361) dL_law_1360 rfl ?_
  refine sw_ald_4_0 (np := 1362) dL_law_1361 rfl ?_
  refine sw_ild_4_3 (np := 1363) dL_law_1362 rfl ?_
  refine sw_iconst (np := 1364) dL_law_1363 sw_ic_5 rfl ?_
  refine sw_iadd (np := 1365) dL_law_1364 rfl ?_
  refine sw_sld (np := 1366) dL_law_1365 rfl ?_
  refine sw_cV5i (np := 1369) (hX8_shift (d := 1000) (Nat.le_of_ble_eq_true rfl) ) sw_mv_X8_shift sw_k_0 sw_wl_RL_169 dL_law_1366 (sw_fit_l (by decide)) (Nat.le_of_ble_eq_true rfl) rfl (fun r1 S1 => ?_)
  refine sw_ald_4_2 (np := 1370) dL_law_1369 rfl ?_
  refine sw_ald_4_0 (np := 1371) dL_law_1370 rfl ?_
  refine sw_ild_4_3 (np := 1372) dL_law_1371 rfl ?_
  refine sw_iconst (np := 1373) dL_law_1372 sw_ic_1 rfl ?_
  refine sw_iadd (np := 1374) dL_law_1373 rfl ?_
  refine sw_sld (np := 1375) dL_law_1374 rfl ?_
  refine sw_ald_4_0 (np := 1376) dL_law_1375 rfl ?_
  refine sw_ild_4_3 (np := 1377) dL_law_1376 rfl ?_
  refine sw_iconst (np := 1378) dL_law_1377 sw_ic_2 rfl ?_
  refine sw_iadd (np := 1379) dL_law_1378 rfl ?_
  refine sw_sld (np := 1380) dL_law_1379 rfl ?_
  refine sw_ald_4_0 (np := 1381) dL_law_1380 rfl ?_
  refine sw_ild_4_3 (np := 1382) dL_law_1381 rfl ?_
  refine sw_iconst (np := 1383) dL_law_1382 sw_ic_3 rfl ?_
  refine sw_iadd (np := 1384) dL_law_1383 rfl ?_
  refine sw_sld (np := 1385) dL_law_1384 rfl ?_
  refine sw_ald_4_0 (np := 1386) dL_law_1385 rfl ?_
  refine sw_ild_4_3 (np := 1387) dL_law_1386 rfl ?_
  refine sw_iconst (np := 1388) dL_law_1387 sw_ic_4 rfl ?_
  refine sw_iadd (np := 1389) dL_law_1388 rfl ?_
  refine sw_sld (np := 1390) dL_law_1389 rfl ?_
  refine sw_ald_4_0 (np := 1391) dL_law_1390 rfl ?_
  refine sw_ild_4_3 (np := 1392) dL_law_1391 rfl ?_
  refine sw_iconst (np := 1393) dL_law_1392 sw_ic_5 rfl ?_
  refine sw_iadd (np := 1394) dL_law_1393 rfl ?_
  refine sw_sld (np := 1395) dL_law_1394 rfl ?_
  refine sw_cV5i (np := 1398) (hX9_shift (d := 1000) (Nat.le_of_ble_eq_true rfl) ) sw_mv_X9_shift sw_k_105 sw_wl_RL_173 dL_law_1395 (sw_fit_l (by decide)) (Nat.le_of_ble_eq_true rfl) rfl (fun r2 S2 => ?_)
  refine sw_icmp_eq (np := 1401) (tp := 1459) dL_law_1398 rfl rfl ?_ ?_
  · refine sw_inc_4_3 (np := 1462) dL_law_1459 sw_ic_6 rfl rfl ?_
    refine sw_goto (tp := 18) dL_law_1462 rfl ?_
    exact hrec1 _ _
  · refine sw_iconst (np := 1402) dL_law_1401 sw_ic_0 rfl ?_
    exact sw_ret0 dL_law_1402
def fL_c38 (xs : Nat → Int32) (L N : Nat) (rec1 : Int32 → sw_St → Option (Int32 × sw_St)) (i : Int32) (S : sw_St) : Option (Int32 × sw_St) :=
  sw_gd (sw_in (i + (1 : Int32)) L) (sw_gd (sw_in (i + (2 : Int32)) L) (sw_bd (fX8_taken N (xs (i + (1 : Int32)).toNatClampNeg) (xs (i + (2 : Int32)).toNatClampNeg) S) (fun r1 S1 => (sw_gd (sw_in (i + (1 : Int32)) L) (sw_gd (sw_in (i + (2 : Int32)) L) (sw_bd (fX9_taken N (xs (i + (1 : Int32)).toNatClampNeg) (xs (i + (2 : Int32)).toNatClampNeg) S1) (fun r2 S2 => (if r1 = r2 then (rec1 (i + (6 : Int32)) S2) else (some ((0 : Int32), S2))))))))))
theorem hL_c38 {G : sw_G} {b L N : Nat} {xs : Nat → Int32} {rec1 : Int32 → sw_St → Option (Int32 × sw_St)} (hrec1 : ∀ (i : Int32) (S : sw_St), sw_Rn G RL cL_law 4 ret room_1 128 sw_SL (sw_Zl G b L xs) 18 [some (.ref b), some (sw_vr G 0), some (sw_vr G 105), some (.int i)] [] S (rec1 i S)) (i : Int32) (S : sw_St) : sw_Rn G RL cL_law 4 ret room_1 128 sw_SL (sw_Zl G b L xs) 1403 [some (.ref b), some (sw_vr G 0), some (sw_vr G 105), some (.int i)] [] S (fL_c38 xs L N rec1 i S) := by
  unfold fL_c38
  refine sw_ald_4_1 (np := 1404) dL_law_1403 rfl ?_
  refine sw_ald_4_0 (np := 1405) dL_law_1404 rfl ?_
  refine sw_ild_4_3 (np := 1406) dL_law_1405 rfl ?_
  refine sw_iconst (np := 1407) dL_law_1406 sw_ic_1 rfl ?_
  refine sw_iadd (np := 1408) dL_law_1407 rfl ?_
  refine sw_sld (np := 1409) dL_law_1408 rfl ?_
  refine sw_ald_4_0 (np := 1410) dL_law_1409 rfl ?_
  refine sw_ild_4_3 (np := 1411) dL_law_1410 rfl ?_
  refine sw_iconst (np := 1412) dL_law_1411 sw_ic_2 rfl ?_
  refine sw_iadd (np := 1413) dL_law_1412 rfl ?_
  refine sw_sld (np := 1414) dL_law_1413 rfl ?_
  refine sw_cV2i (np := 1417) (hX8_taken (d := 1000) (Nat.le_of_ble_eq_true rfl) ) sw_mv_X8_taken sw_k_0 sw_wl_RL_174 dL_law_1414 (sw_fit_l (by decide)) (Nat.le_of_ble_eq_true rfl) rfl (fun r1 S1 => ?_)
  refine sw_ald_4_2 (np := 1418) dL_law_1417 rfl ?_
  refine sw_ald_4_0 (np := 1419) dL_law_1418 rfl ?_
  refine sw_ild_4_3 (np := 1420) dL_law_1419 rfl ?_
  refine sw_iconst (np := 1421) dL_law_1420 sw_ic_1 rfl ?_
  refine sw_iadd (np := 1422) dL_law_1421 rfl ?_
  refine sw_sld (np := 1423) dL_law_1422 rfl ?_
  refine sw_ald_4_0 (np := 1424) dL_law_1423 rfl ?_
  refine sw_ild_4_3 (np := 1425) dL_law_1424 rfl ?_
  refine sw_iconst (np := 1426) dL_law_1425 sw_ic_2 rfl ?_
  refine sw_iadd (np := 1427) dL_law_1426 rfl ?_
  refine sw_sld (np := 1428) dL_law_1427 rfl ?_
  refine sw_cV2i (np := 1431) (hX9_taken (d := 1000) (Nat.le_of_ble_eq_true rfl) ) sw_mv_X9_taken sw_k_105 sw_wl_RL_177 dL_law_1428 (sw_fit_l (by decide)) (Nat.le_of_ble_eq_true rfl) rfl (fun r2 S2 => ?_)
  refine sw_icmp_eq (np := 1434) (tp := 1459) dL_law_1431 rfl rfl ?_ ?_
  · refine sw_inc_4_3 (np := 1462) dL_law_1459 sw_ic_6 rfl rfl ?_
    refine sw_goto (tp := 18) dL_law_1462 rfl ?_
    exact hrec1 _ _
  · refine sw_iconst (np := 1435) dL_law_1434 sw_ic_0 rfl ?_
    exact sw_ret0 dL_law_1435
def fL_c39 (xs : Nat → Int32) (L N : Nat) (rec1 : Int32 → sw_St → Option (Int32 × sw_St)) (i : Int32) (S : sw_St) : Option (Int32 × sw_St) :=
  sw_gd (sw_in (i + (1 : Int32)) L) (sw_bd (fX8_count N (xs (i + (1 : Int32)).toNatClampNeg) S) (fun r1 S1 => (sw_gd (sw_in (i + (1 : Int32)) L) (sw_bd (fX9_count N (xs (i + (1 : Int32)).toNatClampNeg) S1) (fun r2 S2 => (if r1 = r2 then (rec1 (i + (6 : Int32)) S2) else (some ((0 : Int32), S2))))))))
theorem hL_c39 {G : sw_G} {b L N : Nat} {xs : Nat → Int32} {rec1 : Int32 → sw_St → Option (Int32 × sw_St)} (hrec1 : ∀ (i : Int32) (S : sw_St), sw_Rn G RL cL_law 4 ret room_1 128 sw_SL (sw_Zl G b L xs) 18 [some (.ref b), some (sw_vr G 0), some (sw_vr G 105), some (.int i)] [] S (rec1 i S)) (i : Int32) (S : sw_St) : sw_Rn G RL cL_law 4 ret room_1 128 sw_SL (sw_Zl G b L xs) 1436 [some (.ref b), some (sw_vr G 0), some (sw_vr G 105), some (.int i)] [] S (fL_c39 xs L N rec1 i S) := by
  unfold fL_c39
  refine sw_ald_4_1 (np := 1437) dL_law_1436 rfl ?_
  refine sw_ald_4_0 (np := 1438) dL_law_1437 rfl ?_
  refine sw_ild_4_3 (np := 1439) dL_law_1438 rfl ?_
  refine sw_iconst (np := 1440) dL_law_1439 sw_ic_1 rfl ?_
  refine sw_iadd (np := 1441) dL_law_1440 rfl ?_
  refine sw_sld (np := 1442) dL_law_1441 rfl ?_
  refine sw_cV1i (np := 1445) (hX8_count (d := 1000) (Nat.le_of_ble_eq_true rfl) ) sw_mv_X8_count sw_k_0 sw_wl_RL_178 dL_law_1442 (sw_fit_l (by decide)) (Nat.le_of_ble_eq_true rfl) rfl (fun r1 S1 => ?_)
  refine sw_ald_4_2 (np := 1446) dL_law_1445 rfl ?_
  refine sw_ald_4_0 (np := 1447) dL_law_1446 rfl ?_
  refine sw_ild_4_3 (np := 1448) dL_law_1447 rfl ?_
  refine sw_iconst (np := 1449) dL_law_1448 sw_ic_1 rfl ?_
  refine sw_iadd (np := 1450) dL_law_1449 rfl ?_
  refine sw_sld (np := 1451) dL_law_1450 rfl ?_
  refine sw_cV1i (np := 1454) (hX9_count (d := 1000) (Nat.le_of_ble_eq_true rfl) ) sw_mv_X9_count sw_k_105 sw_wl_RL_181 dL_law_1451 (sw_fit_l (by decide)) (Nat.le_of_ble_eq_true rfl) rfl (fun r2 S2 => ?_)
  refine sw_icmp_eq (np := 1457) (tp := 1459) dL_law_1454 rfl rfl ?_ ?_
  · refine sw_inc_4_3 (np := 1462) dL_law_1459 sw_ic_6 rfl rfl ?_
    refine sw_goto (tp := 18) dL_law_1462 rfl ?_
    exact hrec1 _ _
  · refine sw_iconst (np := 1458) dL_law_1457 sw_ic_0 rfl ?_
    exact sw_ret0 dL_law_1458
