set_option maxHeartbeats 4000000 in
set_option maxRecDepth 100000 in
theorem law_0 {D : va_G} {ca : Nat → ClassId} {L : Nat} {xs : Nat → Int} {i : Nat} (hL : L ≤ 2560) (hi : i + 5 ≤ L) {M M1 M2 M' : gMem} {r : Int} (F8 : Fn D ca mX8_village [gR 0, gI (xs (i + 1))] SH M [gI r] SH M1) (F9 : Fn D ca mX9_village [gR 106, gI (xs (i + 1))] SH M1 [gI r] SH M2) (hG : Go D ca (some (L, xs)) room_1 mL_law 1158 [(0, gS), (1, gR 0), (2, gR 106), (3, gI (i : Int))] [] SH M2 [gI 1] SH M') : Go D ca (some (L, xs)) room_1 mL_law 192 [(0, gS), (1, gR 0), (2, gR 106), (3, gI (i : Int))] [] SH M [gI 1] SH M' := by
  refine Go_aload_n 1 rfl rfl dL_law_192 ?_
  refine Go_sload_n 0 rfl rfl dL_law_193 ?_
  refine Go_iload_n 3 rfl rfl dL_law_194 ?_
  refine Go_iconst (by unfold in32; omega) dL_law_195 ?_
  refine Go_iaddn i 1 rfl rfl (by omega) dL_law_196 ?_
  refine Go_sld (i + 1) rfl rfl (by omega) dL_law_197 ?_
  refine Go_callVI (q := vwCl[8]) F8 cwL_13 imX8_village rfl rfl ⟨Nat.le_of_ble_eq_true rfl, Nat.le_of_ble_eq_true rfl⟩ sh_0 rfl (Nat.le_of_ble_eq_true rfl) sh_rf dL_law_198 ?_
  refine Go_aload_n 2 rfl rfl dL_law_201 ?_
  refine Go_sload_n 0 rfl rfl dL_law_202 ?_
  refine Go_iload_n 3 rfl rfl dL_law_203 ?_
  refine Go_iconst (by unfold in32; omega) dL_law_204 ?_
  refine Go_iaddn i 1 rfl rfl (by omega) dL_law_205 ?_
  refine Go_sld (i + 1) rfl rfl (by omega) dL_law_206 ?_
  refine Go_callVI (q := vwCl[9]) F9 cwL_17 imX9_village rfl rfl ⟨Nat.le_of_ble_eq_true rfl, Nat.le_of_ble_eq_true rfl⟩ sh_106 rfl (Nat.le_of_ble_eq_true rfl) sh_rf dL_law_207 ?_
  refine Go_icmp_eq dL_law_210 rfl (fun h210 => ?_) (fun h210 => ?_)
  · skip
    exact hG
  · skip
    exact absurd rfl h210
set_option maxHeartbeats 4000000 in
set_option maxRecDepth 100000 in
theorem law_1 {D : va_G} {ca : Nat → ClassId} {L : Nat} {xs : Nat → Int} {i : Nat} (hL : L ≤ 2560) (hi : i + 5 ≤ L) {M M1 M2 M' : gMem} {r : Int} (F8 : Fn D ca mX8_loaves [gR 0, gI (xs (i + 1)), gI (xs (i + 2))] SH M [gI r] SH M1) (F9 : Fn D ca mX9_loaves [gR 106, gI (xs (i + 1)), gI (xs (i + 2))] SH M1 [gI r] SH M2) (hG : Go D ca (some (L, xs)) room_1 mL_law 1158 [(0, gS), (1, gR 0), (2, gR 106), (3, gI (i : Int))] [] SH M2 [gI 1] SH M') : Go D ca (some (L, xs)) room_1 mL_law 215 [(0, gS), (1, gR 0), (2, gR 106), (3, gI (i : Int))] [] SH M [gI 1] SH M' := by
  refine Go_aload_n 1 rfl rfl dL_law_215 ?_
  refine Go_sload_n 0 rfl rfl dL_law_216 ?_
  refine Go_iload_n 3 rfl rfl dL_law_217 ?_
  refine Go_iconst (by unfold in32; omega) dL_law_218 ?_
  refine Go_iaddn i 1 rfl rfl (by omega) dL_law_219 ?_
  refine Go_sld (i + 1) rfl rfl (by omega) dL_law_220 ?_
  refine Go_sload_n 0 rfl rfl dL_law_221 ?_
  refine Go_iload_n 3 rfl rfl dL_law_222 ?_
  refine Go_iconst (by unfold in32; omega) dL_law_223 ?_
  refine Go_iaddn i 2 rfl rfl (by omega) dL_law_224 ?_
  refine Go_sld (i + 2) rfl rfl (by omega) dL_law_225 ?_
  refine Go_callVI (q := vwCl[8]) F8 cwL_18 imX8_loaves rfl rfl ⟨Nat.le_of_ble_eq_true rfl, Nat.le_of_ble_eq_true rfl⟩ sh_0 rfl (Nat.le_of_ble_eq_true rfl) sh_rf dL_law_226 ?_
  refine Go_aload_n 2 rfl rfl dL_law_229 ?_
  refine Go_sload_n 0 rfl rfl dL_law_230 ?_
  refine Go_iload_n 3 rfl rfl dL_law_231 ?_
  refine Go_iconst (by unfold in32; omega) dL_law_232 ?_
  refine Go_iaddn i 1 rfl rfl (by omega) dL_law_233 ?_
  refine Go_sld (i + 1) rfl rfl (by omega) dL_law_234 ?_
  refine Go_sload_n 0 rfl rfl dL_law_235 ?_
  refine Go_iload_n 3 rfl rfl dL_law_236 ?_
  refine Go_iconst (by unfold in32; omega) dL_law_237 ?_
  refine Go_iaddn i 2 rfl rfl (by omega) dL_law_238 ?_
  refine Go_sld (i + 2) rfl rfl (by omega) dL_law_239 ?_
  refine Go_callVI (q := vwCl[9]) F9 cwL_22 imX9_loaves rfl rfl ⟨Nat.le_of_ble_eq_true rfl, Nat.le_of_ble_eq_true rfl⟩ sh_106 rfl (Nat.le_of_ble_eq_true rfl) sh_rf dL_law_240 ?_
  refine Go_icmp_eq dL_law_243 rfl (fun h243 => ?_) (fun h243 => ?_)
  · skip
    exact hG
  · skip
    exact absurd rfl h243
set_option maxHeartbeats 4000000 in
set_option maxRecDepth 100000 in
theorem law_2 {D : va_G} {ca : Nat → ClassId} {L : Nat} {xs : Nat → Int} {i : Nat} (hL : L ≤ 2560) (hi : i + 5 ≤ L) {M M1 M2 M' : gMem} {r : Int} (F8 : Fn D ca mX8_road [gR 0, gI (xs (i + 1)), gI (xs (i + 2)), gI (xs (i + 3))] SH M [gI r] SH M1) (F9 : Fn D ca mX9_road [gR 106, gI (xs (i + 1)), gI (xs (i + 2)), gI (xs (i + 3))] SH M1 [gI r] SH M2) (hG : Go D ca (some (L, xs)) room_1 mL_law 1158 [(0, gS), (1, gR 0), (2, gR 106), (3, gI (i : Int))] [] SH M2 [gI 1] SH M') : Go D ca (some (L, xs)) room_1 mL_law 248 [(0, gS), (1, gR 0), (2, gR 106), (3, gI (i : Int))] [] SH M [gI 1] SH M' := by
  refine Go_aload_n 1 rfl rfl dL_law_248 ?_
  refine Go_sload_n 0 rfl rfl dL_law_249 ?_
  refine Go_iload_n 3 rfl rfl dL_law_250 ?_
  refine Go_iconst (by unfold in32; omega) dL_law_251 ?_
  refine Go_iaddn i 1 rfl rfl (by omega) dL_law_252 ?_
  refine Go_sld (i + 1) rfl rfl (by omega) dL_law_253 ?_
  refine Go_sload_n 0 rfl rfl dL_law_254 ?_
  refine Go_iload_n 3 rfl rfl dL_law_255 ?_
  refine Go_iconst (by unfold in32; omega) dL_law_256 ?_
  refine Go_iaddn i 2 rfl rfl (by omega) dL_law_257 ?_
  refine Go_sld (i + 2) rfl rfl (by omega) dL_law_258 ?_
  refine Go_sload_n 0 rfl rfl dL_law_259 ?_
  refine Go_iload_n 3 rfl rfl dL_law_260 ?_
  refine Go_iconst (by unfold in32; omega) dL_law_261 ?_
  refine Go_iaddn i 3 rfl rfl (by omega) dL_law_262 ?_
  refine Go_sld (i + 3) rfl rfl (by omega) dL_law_263 ?_
  refine Go_callVI (q := vwCl[8]) F8 cwL_23 imX8_road rfl rfl ⟨Nat.le_of_ble_eq_true rfl, Nat.le_of_ble_eq_true rfl⟩ sh_0 rfl (Nat.le_of_ble_eq_true rfl) sh_rf dL_law_264 ?_
  refine Go_aload_n 2 rfl rfl dL_law_267 ?_
  refine Go_sload_n 0 rfl rfl dL_law_268 ?_
  refine Go_iload_n 3 rfl rfl dL_law_269 ?_
  refine Go_iconst (by unfold in32; omega) dL_law_270 ?_
  refine Go_iaddn i 1 rfl rfl (by omega) dL_law_271 ?_
  refine Go_sld (i + 1) rfl rfl (by omega) dL_law_272 ?_
  refine Go_sload_n 0 rfl rfl dL_law_273 ?_
  refine Go_iload_n 3 rfl rfl dL_law_274 ?_
  refine Go_iconst (by unfold in32; omega) dL_law_275 ?_
  refine Go_iaddn i 2 rfl rfl (by omega) dL_law_276 ?_
  refine Go_sld (i + 2) rfl rfl (by omega) dL_law_277 ?_
  refine Go_sload_n 0 rfl rfl dL_law_278 ?_
  refine Go_iload_n 3 rfl rfl dL_law_279 ?_
  refine Go_iconst (by unfold in32; omega) dL_law_280 ?_
  refine Go_iaddn i 3 rfl rfl (by omega) dL_law_281 ?_
  refine Go_sld (i + 3) rfl rfl (by omega) dL_law_282 ?_
  refine Go_callVI (q := vwCl[9]) F9 cwL_27 imX9_road rfl rfl ⟨Nat.le_of_ble_eq_true rfl, Nat.le_of_ble_eq_true rfl⟩ sh_106 rfl (Nat.le_of_ble_eq_true rfl) sh_rf dL_law_283 ?_
  refine Go_icmp_eq dL_law_286 rfl (fun h286 => ?_) (fun h286 => ?_)
  · skip
    exact hG
  · skip
    exact absurd rfl h286
set_option maxHeartbeats 4000000 in
set_option maxRecDepth 100000 in
theorem law_3 {D : va_G} {ca : Nat → ClassId} {L : Nat} {xs : Nat → Int} {i : Nat} (hL : L ≤ 2560) (hi : i + 5 ≤ L) {M M1 M2 M' : gMem} {r : Int} (F8 : Fn D ca mX8_place [gR 0, gI (xs (i + 1)), gI (xs (i + 2)), gI (xs (i + 3))] SH M [gI r] SH M1) (F9 : Fn D ca mX9_place [gR 106, gI (xs (i + 1)), gI (xs (i + 2)), gI (xs (i + 3))] SH M1 [gI r] SH M2) (hG : Go D ca (some (L, xs)) room_1 mL_law 1158 [(0, gS), (1, gR 0), (2, gR 106), (3, gI (i : Int))] [] SH M2 [gI 1] SH M') : Go D ca (some (L, xs)) room_1 mL_law 291 [(0, gS), (1, gR 0), (2, gR 106), (3, gI (i : Int))] [] SH M [gI 1] SH M' := by
  refine Go_aload_n 1 rfl rfl dL_law_291 ?_
  refine Go_sload_n 0 rfl rfl dL_law_292 ?_
  refine Go_iload_n 3 rfl rfl dL_law_293 ?_
  refine Go_iconst (by unfold in32; omega) dL_law_294 ?_
  refine Go_iaddn i 1 rfl rfl (by omega) dL_law_295 ?_
  refine Go_sld (i + 1) rfl rfl (by omega) dL_law_296 ?_
  refine Go_sload_n 0 rfl rfl dL_law_297 ?_
  refine Go_iload_n 3 rfl rfl dL_law_298 ?_
  refine Go_iconst (by unfold in32; omega) dL_law_299 ?_
  refine Go_iaddn i 2 rfl rfl (by omega) dL_law_300 ?_
  refine Go_sld (i + 2) rfl rfl (by omega) dL_law_301 ?_
  refine Go_sload_n 0 rfl rfl dL_law_302 ?_
  refine Go_iload_n 3 rfl rfl dL_law_303 ?_
  refine Go_iconst (by unfold in32; omega) dL_law_304 ?_
  refine Go_iaddn i 3 rfl rfl (by omega) dL_law_305 ?_
  refine Go_sld (i + 3) rfl rfl (by omega) dL_law_306 ?_
  refine Go_callVI (q := vwCl[8]) F8 cwL_28 imX8_place rfl rfl ⟨Nat.le_of_ble_eq_true rfl, Nat.le_of_ble_eq_true rfl⟩ sh_0 rfl (Nat.le_of_ble_eq_true rfl) sh_rf dL_law_307 ?_
  refine Go_aload_n 2 rfl rfl dL_law_310 ?_
  refine Go_sload_n 0 rfl rfl dL_law_311 ?_
  refine Go_iload_n 3 rfl rfl dL_law_312 ?_
  refine Go_iconst (by unfold in32; omega) dL_law_313 ?_
  refine Go_iaddn i 1 rfl rfl (by omega) dL_law_314 ?_
  refine Go_sld (i + 1) rfl rfl (by omega) dL_law_315 ?_
  refine Go_sload_n 0 rfl rfl dL_law_316 ?_
  refine Go_iload_n 3 rfl rfl dL_law_317 ?_
  refine Go_iconst (by unfold in32; omega) dL_law_318 ?_
  refine Go_iaddn i 2 rfl rfl (by omega) dL_law_319 ?_
  refine Go_sld (i + 2) rfl rfl (by omega) dL_law_320 ?_
  refine Go_sload_n 0 rfl rfl dL_law_321 ?_
  refine Go_iload_n 3 rfl rfl dL_law_322 ?_
  refine Go_iconst (by unfold in32; omega) dL_law_323 ?_
  refine Go_iaddn i 3 rfl rfl (by omega) dL_law_324 ?_
  refine Go_sld (i + 3) rfl rfl (by omega) dL_law_325 ?_
  refine Go_callVI (q := vwCl[9]) F9 cwL_31 imX9_place rfl rfl ⟨Nat.le_of_ble_eq_true rfl, Nat.le_of_ble_eq_true rfl⟩ sh_106 rfl (Nat.le_of_ble_eq_true rfl) sh_rf dL_law_326 ?_
  refine Go_icmp_eq dL_law_329 rfl (fun h329 => ?_) (fun h329 => ?_)
  · skip
    exact hG
  · skip
    exact absurd rfl h329
set_option maxHeartbeats 4000000 in
set_option maxRecDepth 100000 in
theorem law_4 {D : va_G} {ca : Nat → ClassId} {L : Nat} {xs : Nat → Int} {i : Nat} (hL : L ≤ 2560) (hi : i + 5 ≤ L) {M M1 M2 M' : gMem} {r : Int} (F8 : Fn D ca mX8_reach [gR 0, gI (xs (i + 1)), gI (xs (i + 2))] SH M [gI r] SH M1) (F9 : Fn D ca mX9_reach [gR 106, gI (xs (i + 1)), gI (xs (i + 2))] SH M1 [gI r] SH M2) (hG : Go D ca (some (L, xs)) room_1 mL_law 1158 [(0, gS), (1, gR 0), (2, gR 106), (3, gI (i : Int))] [] SH M2 [gI 1] SH M') : Go D ca (some (L, xs)) room_1 mL_law 334 [(0, gS), (1, gR 0), (2, gR 106), (3, gI (i : Int))] [] SH M [gI 1] SH M' := by
  refine Go_aload_n 1 rfl rfl dL_law_334 ?_
  refine Go_sload_n 0 rfl rfl dL_law_335 ?_
  refine Go_iload_n 3 rfl rfl dL_law_336 ?_
  refine Go_iconst (by unfold in32; omega) dL_law_337 ?_
  refine Go_iaddn i 1 rfl rfl (by omega) dL_law_338 ?_
  refine Go_sld (i + 1) rfl rfl (by omega) dL_law_339 ?_
  refine Go_sload_n 0 rfl rfl dL_law_340 ?_
  refine Go_iload_n 3 rfl rfl dL_law_341 ?_
  refine Go_iconst (by unfold in32; omega) dL_law_342 ?_
  refine Go_iaddn i 2 rfl rfl (by omega) dL_law_343 ?_
  refine Go_sld (i + 2) rfl rfl (by omega) dL_law_344 ?_
  refine Go_callVI (q := vwCl[8]) F8 cwL_32 imX8_reach rfl rfl ⟨Nat.le_of_ble_eq_true rfl, Nat.le_of_ble_eq_true rfl⟩ sh_0 rfl (Nat.le_of_ble_eq_true rfl) sh_rf dL_law_345 ?_
  refine Go_aload_n 2 rfl rfl dL_law_348 ?_
  refine Go_sload_n 0 rfl rfl dL_law_349 ?_
  refine Go_iload_n 3 rfl rfl dL_law_350 ?_
  refine Go_iconst (by unfold in32; omega) dL_law_351 ?_
  refine Go_iaddn i 1 rfl rfl (by omega) dL_law_352 ?_
  refine Go_sld (i + 1) rfl rfl (by omega) dL_law_353 ?_
  refine Go_sload_n 0 rfl rfl dL_law_354 ?_
  refine Go_iload_n 3 rfl rfl dL_law_355 ?_
  refine Go_iconst (by unfold in32; omega) dL_law_356 ?_
  refine Go_iaddn i 2 rfl rfl (by omega) dL_law_357 ?_
  refine Go_sld (i + 2) rfl rfl (by omega) dL_law_358 ?_
  refine Go_callVI (q := vwCl[9]) F9 cwL_35 imX9_reach rfl rfl ⟨Nat.le_of_ble_eq_true rfl, Nat.le_of_ble_eq_true rfl⟩ sh_106 rfl (Nat.le_of_ble_eq_true rfl) sh_rf dL_law_359 ?_
  refine Go_icmp_eq dL_law_362 rfl (fun h362 => ?_) (fun h362 => ?_)
  · skip
    exact hG
  · skip
    exact absurd rfl h362
set_option maxHeartbeats 4000000 in
set_option maxRecDepth 100000 in
theorem law_5 {D : va_G} {ca : Nat → ClassId} {L : Nat} {xs : Nat → Int} {i : Nat} (hL : L ≤ 2560) (hi : i + 5 ≤ L) {M M1 M2 M' : gMem} {r : Int} (F8 : Fn D ca mX8_number [gR 0, gI (xs (i + 1))] SH M [gI r] SH M1) (F9 : Fn D ca mX9_number [gR 106, gI (xs (i + 1))] SH M1 [gI r] SH M2) (hG : Go D ca (some (L, xs)) room_1 mL_law 1158 [(0, gS), (1, gR 0), (2, gR 106), (3, gI (i : Int))] [] SH M2 [gI 1] SH M') : Go D ca (some (L, xs)) room_1 mL_law 367 [(0, gS), (1, gR 0), (2, gR 106), (3, gI (i : Int))] [] SH M [gI 1] SH M' := by
  refine Go_aload_n 1 rfl rfl dL_law_367 ?_
  refine Go_sload_n 0 rfl rfl dL_law_368 ?_
  refine Go_iload_n 3 rfl rfl dL_law_369 ?_
  refine Go_iconst (by unfold in32; omega) dL_law_370 ?_
  refine Go_iaddn i 1 rfl rfl (by omega) dL_law_371 ?_
  refine Go_sld (i + 1) rfl rfl (by omega) dL_law_372 ?_
  refine Go_callVI (q := vwCl[8]) F8 cwL_36 imX8_number rfl rfl ⟨Nat.le_of_ble_eq_true rfl, Nat.le_of_ble_eq_true rfl⟩ sh_0 rfl (Nat.le_of_ble_eq_true rfl) sh_rf dL_law_373 ?_
  refine Go_aload_n 2 rfl rfl dL_law_376 ?_
  refine Go_sload_n 0 rfl rfl dL_law_377 ?_
  refine Go_iload_n 3 rfl rfl dL_law_378 ?_
  refine Go_iconst (by unfold in32; omega) dL_law_379 ?_
  refine Go_iaddn i 1 rfl rfl (by omega) dL_law_380 ?_
  refine Go_sld (i + 1) rfl rfl (by omega) dL_law_381 ?_
  refine Go_callVI (q := vwCl[9]) F9 cwL_39 imX9_number rfl rfl ⟨Nat.le_of_ble_eq_true rfl, Nat.le_of_ble_eq_true rfl⟩ sh_106 rfl (Nat.le_of_ble_eq_true rfl) sh_rf dL_law_382 ?_
  refine Go_icmp_eq dL_law_385 rfl (fun h385 => ?_) (fun h385 => ?_)
  · skip
    exact hG
  · skip
    exact absurd rfl h385
set_option maxHeartbeats 4000000 in
set_option maxRecDepth 100000 in
theorem law_6 {D : va_G} {ca : Nat → ClassId} {L : Nat} {xs : Nat → Int} {i : Nat} (hL : L ≤ 2560) (hi : i + 5 ≤ L) {M M1 M2 M' : gMem} {r : Int} (F8 : Fn D ca mX8_map [gR 0, gI (xs (i + 1)), gI (xs (i + 2)), gI (xs (i + 3))] SH M [gI r] SH M1) (F9 : Fn D ca mX9_map [gR 106, gI (xs (i + 1)), gI (xs (i + 2)), gI (xs (i + 3))] SH M1 [gI r] SH M2) (hG : Go D ca (some (L, xs)) room_1 mL_law 1158 [(0, gS), (1, gR 0), (2, gR 106), (3, gI (i : Int))] [] SH M2 [gI 1] SH M') : Go D ca (some (L, xs)) room_1 mL_law 390 [(0, gS), (1, gR 0), (2, gR 106), (3, gI (i : Int))] [] SH M [gI 1] SH M' := by
  refine Go_aload_n 1 rfl rfl dL_law_390 ?_
  refine Go_sload_n 0 rfl rfl dL_law_391 ?_
  refine Go_iload_n 3 rfl rfl dL_law_392 ?_
  refine Go_iconst (by unfold in32; omega) dL_law_393 ?_
  refine Go_iaddn i 1 rfl rfl (by omega) dL_law_394 ?_
  refine Go_sld (i + 1) rfl rfl (by omega) dL_law_395 ?_
  refine Go_sload_n 0 rfl rfl dL_law_396 ?_
  refine Go_iload_n 3 rfl rfl dL_law_397 ?_
  refine Go_iconst (by unfold in32; omega) dL_law_398 ?_
  refine Go_iaddn i 2 rfl rfl (by omega) dL_law_399 ?_
  refine Go_sld (i + 2) rfl rfl (by omega) dL_law_400 ?_
  refine Go_sload_n 0 rfl rfl dL_law_401 ?_
  refine Go_iload_n 3 rfl rfl dL_law_402 ?_
  refine Go_iconst (by unfold in32; omega) dL_law_403 ?_
  refine Go_iaddn i 3 rfl rfl (by omega) dL_law_404 ?_
  refine Go_sld (i + 3) rfl rfl (by omega) dL_law_405 ?_
  refine Go_callVI (q := vwCl[8]) F8 cwL_40 imX8_map rfl rfl ⟨Nat.le_of_ble_eq_true rfl, Nat.le_of_ble_eq_true rfl⟩ sh_0 rfl (Nat.le_of_ble_eq_true rfl) sh_rf dL_law_406 ?_
  refine Go_aload_n 2 rfl rfl dL_law_409 ?_
  refine Go_sload_n 0 rfl rfl dL_law_410 ?_
  refine Go_iload_n 3 rfl rfl dL_law_411 ?_
  refine Go_iconst (by unfold in32; omega) dL_law_412 ?_
  refine Go_iaddn i 1 rfl rfl (by omega) dL_law_413 ?_
  refine Go_sld (i + 1) rfl rfl (by omega) dL_law_414 ?_
  refine Go_sload_n 0 rfl rfl dL_law_415 ?_
  refine Go_iload_n 3 rfl rfl dL_law_416 ?_
  refine Go_iconst (by unfold in32; omega) dL_law_417 ?_
  refine Go_iaddn i 2 rfl rfl (by omega) dL_law_418 ?_
  refine Go_sld (i + 2) rfl rfl (by omega) dL_law_419 ?_
  refine Go_sload_n 0 rfl rfl dL_law_420 ?_
  refine Go_iload_n 3 rfl rfl dL_law_421 ?_
  refine Go_iconst (by unfold in32; omega) dL_law_422 ?_
  refine Go_iaddn i 3 rfl rfl (by omega) dL_law_423 ?_
  refine Go_sld (i + 3) rfl rfl (by omega) dL_law_424 ?_
  refine Go_callVI (q := vwCl[9]) F9 cwL_43 imX9_map rfl rfl ⟨Nat.le_of_ble_eq_true rfl, Nat.le_of_ble_eq_true rfl⟩ sh_106 rfl (Nat.le_of_ble_eq_true rfl) sh_rf dL_law_425 ?_
  refine Go_icmp_eq dL_law_428 rfl (fun h428 => ?_) (fun h428 => ?_)
  · skip
    exact hG
  · skip
    exact absurd rfl h428
set_option maxHeartbeats 4000000 in
set_option maxRecDepth 100000 in
theorem law_7 {D : va_G} {ca : Nat → ClassId} {L : Nat} {xs : Nat → Int} {i : Nat} (hL : L ≤ 2560) (hi : i + 5 ≤ L) {M M1 M2 M' : gMem} {r : Int} (F8 : Fn D ca mX8_lay [gR 0, gI (xs (i + 1)), gI (xs (i + 2)), gJ (r64 (l64 (xs (i + 3)) 32) (a64 (xs (i + 4)) 4294967295))] SH M [gI r] SH M1) (F9 : Fn D ca mX9_lay [gR 106, gI (xs (i + 1)), gI (xs (i + 2)), gJ (r64 (l64 (xs (i + 3)) 32) (a64 (xs (i + 4)) 4294967295))] SH M1 [gI r] SH M2) (hG : Go D ca (some (L, xs)) room_1 mL_law 1158 [(0, gS), (1, gR 0), (2, gR 106), (3, gI (i : Int))] [] SH M2 [gI 1] SH M') : Go D ca (some (L, xs)) room_1 mL_law 433 [(0, gS), (1, gR 0), (2, gR 106), (3, gI (i : Int))] [] SH M [gI 1] SH M' := by
  refine Go_aload_n 1 rfl rfl dL_law_433 ?_
  refine Go_sload_n 0 rfl rfl dL_law_434 ?_
  refine Go_iload_n 3 rfl rfl dL_law_435 ?_
  refine Go_iconst (by unfold in32; omega) dL_law_436 ?_
  refine Go_iaddn i 1 rfl rfl (by omega) dL_law_437 ?_
  refine Go_sld (i + 1) rfl rfl (by omega) dL_law_438 ?_
  refine Go_sload_n 0 rfl rfl dL_law_439 ?_
  refine Go_iload_n 3 rfl rfl dL_law_440 ?_
  refine Go_iconst (by unfold in32; omega) dL_law_441 ?_
  refine Go_iaddn i 2 rfl rfl (by omega) dL_law_442 ?_
  refine Go_sld (i + 2) rfl rfl (by omega) dL_law_443 ?_
  refine Go_sload_n 0 rfl rfl dL_law_444 ?_
  refine Go_iload_n 3 rfl rfl dL_law_445 ?_
  refine Go_iconst (by unfold in32; omega) dL_law_446 ?_
  refine Go_iaddn i 3 rfl rfl (by omega) dL_law_447 ?_
  refine Go_sld (i + 3) rfl rfl (by omega) dL_law_448 ?_
  refine Go_i2l dL_law_449 ?_
  refine Go_bipush ⟨by decide, by unfold in32; omega⟩ dL_law_450 ?_
  refine Go_lshl dL_law_452 ?_
  refine Go_sload_n 0 rfl rfl dL_law_453 ?_
  refine Go_iload_n 3 rfl rfl dL_law_454 ?_
  refine Go_iconst (by unfold in32; omega) dL_law_455 ?_
  refine Go_iaddn i 4 rfl rfl (by omega) dL_law_456 ?_
  refine Go_sld (i + 4) rfl rfl (by omega) dL_law_457 ?_
  refine Go_i2l dL_law_458 ?_
  refine Go_ldc2 klL_44 (by unfold in64; omega) dL_law_459 ?_
  refine Go_land dL_law_462 ?_
  refine Go_lor dL_law_463 ?_
  refine Go_callVI (q := vwCl[8]) F8 cwL_46 imX8_lay rfl rfl ⟨Nat.le_of_ble_eq_true rfl, Nat.le_of_ble_eq_true rfl⟩ sh_0 rfl (Nat.le_of_ble_eq_true rfl) sh_rf dL_law_464 ?_
  refine Go_aload_n 2 rfl rfl dL_law_467 ?_
  refine Go_sload_n 0 rfl rfl dL_law_468 ?_
  refine Go_iload_n 3 rfl rfl dL_law_469 ?_
  refine Go_iconst (by unfold in32; omega) dL_law_470 ?_
  refine Go_iaddn i 1 rfl rfl (by omega) dL_law_471 ?_
  refine Go_sld (i + 1) rfl rfl (by omega) dL_law_472 ?_
  refine Go_sload_n 0 rfl rfl dL_law_473 ?_
  refine Go_iload_n 3 rfl rfl dL_law_474 ?_
  refine Go_iconst (by unfold in32; omega) dL_law_475 ?_
  refine Go_iaddn i 2 rfl rfl (by omega) dL_law_476 ?_
  refine Go_sld (i + 2) rfl rfl (by omega) dL_law_477 ?_
  refine Go_sload_n 0 rfl rfl dL_law_478 ?_
  refine Go_iload_n 3 rfl rfl dL_law_479 ?_
  refine Go_iconst (by unfold in32; omega) dL_law_480 ?_
  refine Go_iaddn i 3 rfl rfl (by omega) dL_law_481 ?_
  refine Go_sld (i + 3) rfl rfl (by omega) dL_law_482 ?_
  refine Go_i2l dL_law_483 ?_
  refine Go_bipush ⟨by decide, by unfold in32; omega⟩ dL_law_484 ?_
  refine Go_lshl dL_law_486 ?_
  refine Go_sload_n 0 rfl rfl dL_law_487 ?_
  refine Go_iload_n 3 rfl rfl dL_law_488 ?_
  refine Go_iconst (by unfold in32; omega) dL_law_489 ?_
  refine Go_iaddn i 4 rfl rfl (by omega) dL_law_490 ?_
  refine Go_sld (i + 4) rfl rfl (by omega) dL_law_491 ?_
  refine Go_i2l dL_law_492 ?_
  refine Go_ldc2 klL_44 (by unfold in64; omega) dL_law_493 ?_
  refine Go_land dL_law_496 ?_
  refine Go_lor dL_law_497 ?_
  refine Go_callVI (q := vwCl[9]) F9 cwL_50 imX9_lay rfl rfl ⟨Nat.le_of_ble_eq_true rfl, Nat.le_of_ble_eq_true rfl⟩ sh_106 rfl (Nat.le_of_ble_eq_true rfl) sh_rf dL_law_498 ?_
  refine Go_icmp_eq dL_law_501 rfl (fun h501 => ?_) (fun h501 => ?_)
  · skip
    exact hG
  · skip
    exact absurd rfl h501
set_option maxHeartbeats 4000000 in
set_option maxRecDepth 100000 in
theorem law_8 {D : va_G} {ca : Nat → ClassId} {L : Nat} {xs : Nat → Int} {i : Nat} (hL : L ≤ 2560) (hi : i + 5 ≤ L) {M M1 M2 M' : gMem} {r : Int} (F8 : Fn D ca mX8_draw [gR 0, gI (xs (i + 1)), gI (xs (i + 2)), gI (xs (i + 3))] SH M [gI r] SH M1) (F9 : Fn D ca mX9_draw [gR 106, gI (xs (i + 1)), gI (xs (i + 2)), gI (xs (i + 3))] SH M1 [gI r] SH M2) (hG : Go D ca (some (L, xs)) room_1 mL_law 1158 [(0, gS), (1, gR 0), (2, gR 106), (3, gI (i : Int))] [] SH M2 [gI 1] SH M') : Go D ca (some (L, xs)) room_1 mL_law 506 [(0, gS), (1, gR 0), (2, gR 106), (3, gI (i : Int))] [] SH M [gI 1] SH M' := by
  refine Go_aload_n 1 rfl rfl dL_law_506 ?_
  refine Go_sload_n 0 rfl rfl dL_law_507 ?_
  refine Go_iload_n 3 rfl rfl dL_law_508 ?_
  refine Go_iconst (by unfold in32; omega) dL_law_509 ?_
  refine Go_iaddn i 1 rfl rfl (by omega) dL_law_510 ?_
  refine Go_sld (i + 1) rfl rfl (by omega) dL_law_511 ?_
  refine Go_sload_n 0 rfl rfl dL_law_512 ?_
  refine Go_iload_n 3 rfl rfl dL_law_513 ?_
  refine Go_iconst (by unfold in32; omega) dL_law_514 ?_
  refine Go_iaddn i 2 rfl rfl (by omega) dL_law_515 ?_
  refine Go_sld (i + 2) rfl rfl (by omega) dL_law_516 ?_
  refine Go_sload_n 0 rfl rfl dL_law_517 ?_
  refine Go_iload_n 3 rfl rfl dL_law_518 ?_
  refine Go_iconst (by unfold in32; omega) dL_law_519 ?_
  refine Go_iaddn i 3 rfl rfl (by omega) dL_law_520 ?_
  refine Go_sld (i + 3) rfl rfl (by omega) dL_law_521 ?_
  refine Go_callVI (q := vwCl[8]) F8 cwL_51 imX8_draw rfl rfl ⟨Nat.le_of_ble_eq_true rfl, Nat.le_of_ble_eq_true rfl⟩ sh_0 rfl (Nat.le_of_ble_eq_true rfl) sh_rf dL_law_522 ?_
  refine Go_aload_n 2 rfl rfl dL_law_525 ?_
  refine Go_sload_n 0 rfl rfl dL_law_526 ?_
  refine Go_iload_n 3 rfl rfl dL_law_527 ?_
  refine Go_iconst (by unfold in32; omega) dL_law_528 ?_
  refine Go_iaddn i 1 rfl rfl (by omega) dL_law_529 ?_
  refine Go_sld (i + 1) rfl rfl (by omega) dL_law_530 ?_
  refine Go_sload_n 0 rfl rfl dL_law_531 ?_
  refine Go_iload_n 3 rfl rfl dL_law_532 ?_
  refine Go_iconst (by unfold in32; omega) dL_law_533 ?_
  refine Go_iaddn i 2 rfl rfl (by omega) dL_law_534 ?_
  refine Go_sld (i + 2) rfl rfl (by omega) dL_law_535 ?_
  refine Go_sload_n 0 rfl rfl dL_law_536 ?_
  refine Go_iload_n 3 rfl rfl dL_law_537 ?_
  refine Go_iconst (by unfold in32; omega) dL_law_538 ?_
  refine Go_iaddn i 3 rfl rfl (by omega) dL_law_539 ?_
  refine Go_sld (i + 3) rfl rfl (by omega) dL_law_540 ?_
  refine Go_callVI (q := vwCl[9]) F9 cwL_54 imX9_draw rfl rfl ⟨Nat.le_of_ble_eq_true rfl, Nat.le_of_ble_eq_true rfl⟩ sh_106 rfl (Nat.le_of_ble_eq_true rfl) sh_rf dL_law_541 ?_
  refine Go_icmp_eq dL_law_544 rfl (fun h544 => ?_) (fun h544 => ?_)
  · skip
    exact hG
  · skip
    exact absurd rfl h544
set_option maxHeartbeats 4000000 in
set_option maxRecDepth 100000 in
theorem law_9 {D : va_G} {ca : Nat → ClassId} {L : Nat} {xs : Nat → Int} {i : Nat} (hL : L ≤ 2560) (hi : i + 5 ≤ L) {M M1 M2 M' : gMem} {r : Int} (F8 : Fn D ca mX8_apart [gR 0, gI (xs (i + 1)), gI (xs (i + 2))] SH M [gI r] SH M1) (F9 : Fn D ca mX9_apart [gR 106, gI (xs (i + 1)), gI (xs (i + 2))] SH M1 [gI r] SH M2) (hG : Go D ca (some (L, xs)) room_1 mL_law 1158 [(0, gS), (1, gR 0), (2, gR 106), (3, gI (i : Int))] [] SH M2 [gI 1] SH M') : Go D ca (some (L, xs)) room_1 mL_law 549 [(0, gS), (1, gR 0), (2, gR 106), (3, gI (i : Int))] [] SH M [gI 1] SH M' := by
  refine Go_aload_n 1 rfl rfl dL_law_549 ?_
  refine Go_sload_n 0 rfl rfl dL_law_550 ?_
  refine Go_iload_n 3 rfl rfl dL_law_551 ?_
  refine Go_iconst (by unfold in32; omega) dL_law_552 ?_
  refine Go_iaddn i 1 rfl rfl (by omega) dL_law_553 ?_
  refine Go_sld (i + 1) rfl rfl (by omega) dL_law_554 ?_
  refine Go_sload_n 0 rfl rfl dL_law_555 ?_
  refine Go_iload_n 3 rfl rfl dL_law_556 ?_
  refine Go_iconst (by unfold in32; omega) dL_law_557 ?_
  refine Go_iaddn i 2 rfl rfl (by omega) dL_law_558 ?_
  refine Go_sld (i + 2) rfl rfl (by omega) dL_law_559 ?_
  refine Go_callVI (q := vwCl[8]) F8 cwL_55 imX8_apart rfl rfl ⟨Nat.le_of_ble_eq_true rfl, Nat.le_of_ble_eq_true rfl⟩ sh_0 rfl (Nat.le_of_ble_eq_true rfl) sh_rf dL_law_560 ?_
  refine Go_aload_n 2 rfl rfl dL_law_563 ?_
  refine Go_sload_n 0 rfl rfl dL_law_564 ?_
  refine Go_iload_n 3 rfl rfl dL_law_565 ?_
  refine Go_iconst (by unfold in32; omega) dL_law_566 ?_
  refine Go_iaddn i 1 rfl rfl (by omega) dL_law_567 ?_
  refine Go_sld (i + 1) rfl rfl (by omega) dL_law_568 ?_
  refine Go_sload_n 0 rfl rfl dL_law_569 ?_
  refine Go_iload_n 3 rfl rfl dL_law_570 ?_
  refine Go_iconst (by unfold in32; omega) dL_law_571 ?_
  refine Go_iaddn i 2 rfl rfl (by omega) dL_law_572 ?_
  refine Go_sld (i + 2) rfl rfl (by omega) dL_law_573 ?_
  refine Go_callVI (q := vwCl[9]) F9 cwL_58 imX9_apart rfl rfl ⟨Nat.le_of_ble_eq_true rfl, Nat.le_of_ble_eq_true rfl⟩ sh_106 rfl (Nat.le_of_ble_eq_true rfl) sh_rf dL_law_574 ?_
  refine Go_icmp_eq dL_law_577 rfl (fun h577 => ?_) (fun h577 => ?_)
  · skip
    exact hG
  · skip
    exact absurd rfl h577
set_option maxHeartbeats 4000000 in
set_option maxRecDepth 100000 in
theorem law_10 {D : va_G} {ca : Nat → ClassId} {L : Nat} {xs : Nat → Int} {i : Nat} (hL : L ≤ 2560) (hi : i + 5 ≤ L) {M M1 M2 M' : gMem} {r : Int} (F8 : Fn D ca mX8_way [gR 0, gI (xs (i + 1)), gI (xs (i + 2)), gI (xs (i + 3))] SH M [gI r] SH M1) (F9 : Fn D ca mX9_way [gR 106, gI (xs (i + 1)), gI (xs (i + 2)), gI (xs (i + 3))] SH M1 [gI r] SH M2) (hG : Go D ca (some (L, xs)) room_1 mL_law 1158 [(0, gS), (1, gR 0), (2, gR 106), (3, gI (i : Int))] [] SH M2 [gI 1] SH M') : Go D ca (some (L, xs)) room_1 mL_law 582 [(0, gS), (1, gR 0), (2, gR 106), (3, gI (i : Int))] [] SH M [gI 1] SH M' := by
  refine Go_aload_n 1 rfl rfl dL_law_582 ?_
  refine Go_sload_n 0 rfl rfl dL_law_583 ?_
  refine Go_iload_n 3 rfl rfl dL_law_584 ?_
  refine Go_iconst (by unfold in32; omega) dL_law_585 ?_
  refine Go_iaddn i 1 rfl rfl (by omega) dL_law_586 ?_
  refine Go_sld (i + 1) rfl rfl (by omega) dL_law_587 ?_
  refine Go_sload_n 0 rfl rfl dL_law_588 ?_
  refine Go_iload_n 3 rfl rfl dL_law_589 ?_
  refine Go_iconst (by unfold in32; omega) dL_law_590 ?_
  refine Go_iaddn i 2 rfl rfl (by omega) dL_law_591 ?_
  refine Go_sld (i + 2) rfl rfl (by omega) dL_law_592 ?_
  refine Go_sload_n 0 rfl rfl dL_law_593 ?_
  refine Go_iload_n 3 rfl rfl dL_law_594 ?_
  refine Go_iconst (by unfold in32; omega) dL_law_595 ?_
  refine Go_iaddn i 3 rfl rfl (by omega) dL_law_596 ?_
  refine Go_sld (i + 3) rfl rfl (by omega) dL_law_597 ?_
  refine Go_callVI (q := vwCl[8]) F8 cwL_59 imX8_way rfl rfl ⟨Nat.le_of_ble_eq_true rfl, Nat.le_of_ble_eq_true rfl⟩ sh_0 rfl (Nat.le_of_ble_eq_true rfl) sh_rf dL_law_598 ?_
  refine Go_aload_n 2 rfl rfl dL_law_601 ?_
  refine Go_sload_n 0 rfl rfl dL_law_602 ?_
  refine Go_iload_n 3 rfl rfl dL_law_603 ?_
  refine Go_iconst (by unfold in32; omega) dL_law_604 ?_
  refine Go_iaddn i 1 rfl rfl (by omega) dL_law_605 ?_
  refine Go_sld (i + 1) rfl rfl (by omega) dL_law_606 ?_
  refine Go_sload_n 0 rfl rfl dL_law_607 ?_
  refine Go_iload_n 3 rfl rfl dL_law_608 ?_
  refine Go_iconst (by unfold in32; omega) dL_law_609 ?_
  refine Go_iaddn i 2 rfl rfl (by omega) dL_law_610 ?_
  refine Go_sld (i + 2) rfl rfl (by omega) dL_law_611 ?_
  refine Go_sload_n 0 rfl rfl dL_law_612 ?_
  refine Go_iload_n 3 rfl rfl dL_law_613 ?_
  refine Go_iconst (by unfold in32; omega) dL_law_614 ?_
  refine Go_iaddn i 3 rfl rfl (by omega) dL_law_615 ?_
  refine Go_sld (i + 3) rfl rfl (by omega) dL_law_616 ?_
  refine Go_callVI (q := vwCl[9]) F9 cwL_62 imX9_way rfl rfl ⟨Nat.le_of_ble_eq_true rfl, Nat.le_of_ble_eq_true rfl⟩ sh_106 rfl (Nat.le_of_ble_eq_true rfl) sh_rf dL_law_617 ?_
  refine Go_icmp_eq dL_law_620 rfl (fun h620 => ?_) (fun h620 => ?_)
  · skip
    exact hG
  · skip
    exact absurd rfl h620
set_option maxHeartbeats 4000000 in
set_option maxRecDepth 100000 in
theorem law_11 {D : va_G} {ca : Nat → ClassId} {L : Nat} {xs : Nat → Int} {i : Nat} (hL : L ≤ 2560) (hi : i + 5 ≤ L) {M M1 M2 M' : gMem} {r : Int} (F8 : Fn D ca mX8_allowed [gR 0, gI (xs (i + 1))] SH M [gI r] SH M1) (F9 : Fn D ca mX9_allowed [gR 106, gI (xs (i + 1))] SH M1 [gI r] SH M2) (hG : Go D ca (some (L, xs)) room_1 mL_law 1158 [(0, gS), (1, gR 0), (2, gR 106), (3, gI (i : Int))] [] SH M2 [gI 1] SH M') : Go D ca (some (L, xs)) room_1 mL_law 625 [(0, gS), (1, gR 0), (2, gR 106), (3, gI (i : Int))] [] SH M [gI 1] SH M' := by
  refine Go_aload_n 1 rfl rfl dL_law_625 ?_
  refine Go_sload_n 0 rfl rfl dL_law_626 ?_
  refine Go_iload_n 3 rfl rfl dL_law_627 ?_
  refine Go_iconst (by unfold in32; omega) dL_law_628 ?_
  refine Go_iaddn i 1 rfl rfl (by omega) dL_law_629 ?_
  refine Go_sld (i + 1) rfl rfl (by omega) dL_law_630 ?_
  refine Go_callVI (q := vwCl[8]) F8 cwL_63 imX8_allowed rfl rfl ⟨Nat.le_of_ble_eq_true rfl, Nat.le_of_ble_eq_true rfl⟩ sh_0 rfl (Nat.le_of_ble_eq_true rfl) sh_rf dL_law_631 ?_
  refine Go_aload_n 2 rfl rfl dL_law_634 ?_
  refine Go_sload_n 0 rfl rfl dL_law_635 ?_
  refine Go_iload_n 3 rfl rfl dL_law_636 ?_
  refine Go_iconst (by unfold in32; omega) dL_law_637 ?_
  refine Go_iaddn i 1 rfl rfl (by omega) dL_law_638 ?_
  refine Go_sld (i + 1) rfl rfl (by omega) dL_law_639 ?_
  refine Go_callVI (q := vwCl[9]) F9 cwL_66 imX9_allowed rfl rfl ⟨Nat.le_of_ble_eq_true rfl, Nat.le_of_ble_eq_true rfl⟩ sh_106 rfl (Nat.le_of_ble_eq_true rfl) sh_rf dL_law_640 ?_
  refine Go_icmp_eq dL_law_643 rfl (fun h643 => ?_) (fun h643 => ?_)
  · skip
    exact hG
  · skip
    exact absurd rfl h643
set_option maxHeartbeats 4000000 in
set_option maxRecDepth 100000 in
theorem law_12 {D : va_G} {ca : Nat → ClassId} {L : Nat} {xs : Nat → Int} {i : Nat} (hL : L ≤ 2560) (hi : i + 5 ≤ L) {M M1 M2 M' : gMem} {r : Int} (F8 : Fn D ca mX8_cost [gR 0, gI (xs (i + 1))] SH M [gJ r] SH M1) (F9 : Fn D ca mX9_cost [gR 106, gI (xs (i + 1))] SH M1 [gJ r] SH M2) (hG : Go D ca (some (L, xs)) room_1 mL_law 1158 [(0, gS), (1, gR 0), (2, gR 106), (3, gI (i : Int))] [] SH M2 [gI 1] SH M') : Go D ca (some (L, xs)) room_1 mL_law 648 [(0, gS), (1, gR 0), (2, gR 106), (3, gI (i : Int))] [] SH M [gI 1] SH M' := by
  refine Go_aload_n 1 rfl rfl dL_law_648 ?_
  refine Go_sload_n 0 rfl rfl dL_law_649 ?_
  refine Go_iload_n 3 rfl rfl dL_law_650 ?_
  refine Go_iconst (by unfold in32; omega) dL_law_651 ?_
  refine Go_iaddn i 1 rfl rfl (by omega) dL_law_652 ?_
  refine Go_sld (i + 1) rfl rfl (by omega) dL_law_653 ?_
  refine Go_callVJ (q := vwCl[8]) F8 cwL_67 imX8_cost rfl rfl ⟨Nat.le_of_ble_eq_true rfl, Nat.le_of_ble_eq_true rfl⟩ sh_0 rfl (Nat.le_of_ble_eq_true rfl) sh_rf dL_law_654 ?_
  refine Go_aload_n 2 rfl rfl dL_law_657 ?_
  refine Go_sload_n 0 rfl rfl dL_law_658 ?_
  refine Go_iload_n 3 rfl rfl dL_law_659 ?_
  refine Go_iconst (by unfold in32; omega) dL_law_660 ?_
  refine Go_iaddn i 1 rfl rfl (by omega) dL_law_661 ?_
  refine Go_sld (i + 1) rfl rfl (by omega) dL_law_662 ?_
  refine Go_callVJ (q := vwCl[9]) F9 cwL_71 imX9_cost rfl rfl ⟨Nat.le_of_ble_eq_true rfl, Nat.le_of_ble_eq_true rfl⟩ sh_106 rfl (Nat.le_of_ble_eq_true rfl) sh_rf dL_law_663 ?_
  refine Go_lcmp dL_law_666 ?_
  refine Go_if_eq dL_law_667 rfl (fun h667 => ?_) (fun h667 => ?_)
  · skip
    replace h667 := cmp_eq.mp h667
    exact hG
  · skip
    replace h667 := cmp_ne.mp h667
    exact absurd rfl h667
set_option maxHeartbeats 4000000 in
set_option maxRecDepth 100000 in
theorem law_13 {D : va_G} {ca : Nat → ClassId} {L : Nat} {xs : Nat → Int} {i : Nat} (hL : L ≤ 2560) (hi : i + 5 ≤ L) {M M1 M2 M' : gMem} {r : Int} (F8 : Fn D ca mX8_served [gR 0, gI (xs (i + 1)), gI (xs (i + 2))] SH M [gI r] SH M1) (F9 : Fn D ca mX9_served [gR 106, gI (xs (i + 1)), gI (xs (i + 2))] SH M1 [gI r] SH M2) (hG : Go D ca (some (L, xs)) room_1 mL_law 1158 [(0, gS), (1, gR 0), (2, gR 106), (3, gI (i : Int))] [] SH M2 [gI 1] SH M') : Go D ca (some (L, xs)) room_1 mL_law 672 [(0, gS), (1, gR 0), (2, gR 106), (3, gI (i : Int))] [] SH M [gI 1] SH M' := by
  refine Go_aload_n 1 rfl rfl dL_law_672 ?_
  refine Go_sload_n 0 rfl rfl dL_law_673 ?_
  refine Go_iload_n 3 rfl rfl dL_law_674 ?_
  refine Go_iconst (by unfold in32; omega) dL_law_675 ?_
  refine Go_iaddn i 1 rfl rfl (by omega) dL_law_676 ?_
  refine Go_sld (i + 1) rfl rfl (by omega) dL_law_677 ?_
  refine Go_sload_n 0 rfl rfl dL_law_678 ?_
  refine Go_iload_n 3 rfl rfl dL_law_679 ?_
  refine Go_iconst (by unfold in32; omega) dL_law_680 ?_
  refine Go_iaddn i 2 rfl rfl (by omega) dL_law_681 ?_
  refine Go_sld (i + 2) rfl rfl (by omega) dL_law_682 ?_
  refine Go_callVI (q := vwCl[8]) F8 cwL_72 imX8_served rfl rfl ⟨Nat.le_of_ble_eq_true rfl, Nat.le_of_ble_eq_true rfl⟩ sh_0 rfl (Nat.le_of_ble_eq_true rfl) sh_rf dL_law_683 ?_
  refine Go_aload_n 2 rfl rfl dL_law_686 ?_
  refine Go_sload_n 0 rfl rfl dL_law_687 ?_
  refine Go_iload_n 3 rfl rfl dL_law_688 ?_
  refine Go_iconst (by unfold in32; omega) dL_law_689 ?_
  refine Go_iaddn i 1 rfl rfl (by omega) dL_law_690 ?_
  refine Go_sld (i + 1) rfl rfl (by omega) dL_law_691 ?_
  refine Go_sload_n 0 rfl rfl dL_law_692 ?_
  refine Go_iload_n 3 rfl rfl dL_law_693 ?_
  refine Go_iconst (by unfold in32; omega) dL_law_694 ?_
  refine Go_iaddn i 2 rfl rfl (by omega) dL_law_695 ?_
  refine Go_sld (i + 2) rfl rfl (by omega) dL_law_696 ?_
  refine Go_callVI (q := vwCl[9]) F9 cwL_75 imX9_served rfl rfl ⟨Nat.le_of_ble_eq_true rfl, Nat.le_of_ble_eq_true rfl⟩ sh_106 rfl (Nat.le_of_ble_eq_true rfl) sh_rf dL_law_697 ?_
  refine Go_icmp_eq dL_law_700 rfl (fun h700 => ?_) (fun h700 => ?_)
  · skip
    exact hG
  · skip
    exact absurd rfl h700
set_option maxHeartbeats 4000000 in
set_option maxRecDepth 100000 in
theorem law_14 {D : va_G} {ca : Nat → ClassId} {L : Nat} {xs : Nat → Int} {i : Nat} (hL : L ≤ 2560) (hi : i + 5 ≤ L) {M M1 M2 M' : gMem} {r : Int} (F8 : Fn D ca mX8_share [gR 0, gI (xs (i + 1)), gI (xs (i + 2)), gI (xs (i + 3))] SH M [gI r] SH M1) (F9 : Fn D ca mX9_share [gR 106, gI (xs (i + 1)), gI (xs (i + 2)), gI (xs (i + 3))] SH M1 [gI r] SH M2) (hG : Go D ca (some (L, xs)) room_1 mL_law 1158 [(0, gS), (1, gR 0), (2, gR 106), (3, gI (i : Int))] [] SH M2 [gI 1] SH M') : Go D ca (some (L, xs)) room_1 mL_law 705 [(0, gS), (1, gR 0), (2, gR 106), (3, gI (i : Int))] [] SH M [gI 1] SH M' := by
  refine Go_aload_n 1 rfl rfl dL_law_705 ?_
  refine Go_sload_n 0 rfl rfl dL_law_706 ?_
  refine Go_iload_n 3 rfl rfl dL_law_707 ?_
  refine Go_iconst (by unfold in32; omega) dL_law_708 ?_
  refine Go_iaddn i 1 rfl rfl (by omega) dL_law_709 ?_
  refine Go_sld (i + 1) rfl rfl (by omega) dL_law_710 ?_
  refine Go_sload_n 0 rfl rfl dL_law_711 ?_
  refine Go_iload_n 3 rfl rfl dL_law_712 ?_
  refine Go_iconst (by unfold in32; omega) dL_law_713 ?_
  refine Go_iaddn i 2 rfl rfl (by omega) dL_law_714 ?_
  refine Go_sld (i + 2) rfl rfl (by omega) dL_law_715 ?_
  refine Go_sload_n 0 rfl rfl dL_law_716 ?_
  refine Go_iload_n 3 rfl rfl dL_law_717 ?_
  refine Go_iconst (by unfold in32; omega) dL_law_718 ?_
  refine Go_iaddn i 3 rfl rfl (by omega) dL_law_719 ?_
  refine Go_sld (i + 3) rfl rfl (by omega) dL_law_720 ?_
  refine Go_callVI (q := vwCl[8]) F8 cwL_76 imX8_share rfl rfl ⟨Nat.le_of_ble_eq_true rfl, Nat.le_of_ble_eq_true rfl⟩ sh_0 rfl (Nat.le_of_ble_eq_true rfl) sh_rf dL_law_721 ?_
  refine Go_aload_n 2 rfl rfl dL_law_724 ?_
  refine Go_sload_n 0 rfl rfl dL_law_725 ?_
  refine Go_iload_n 3 rfl rfl dL_law_726 ?_
  refine Go_iconst (by unfold in32; omega) dL_law_727 ?_
  refine Go_iaddn i 1 rfl rfl (by omega) dL_law_728 ?_
  refine Go_sld (i + 1) rfl rfl (by omega) dL_law_729 ?_
  refine Go_sload_n 0 rfl rfl dL_law_730 ?_
  refine Go_iload_n 3 rfl rfl dL_law_731 ?_
  refine Go_iconst (by unfold in32; omega) dL_law_732 ?_
  refine Go_iaddn i 2 rfl rfl (by omega) dL_law_733 ?_
  refine Go_sld (i + 2) rfl rfl (by omega) dL_law_734 ?_
  refine Go_sload_n 0 rfl rfl dL_law_735 ?_
  refine Go_iload_n 3 rfl rfl dL_law_736 ?_
  refine Go_iconst (by unfold in32; omega) dL_law_737 ?_
  refine Go_iaddn i 3 rfl rfl (by omega) dL_law_738 ?_
  refine Go_sld (i + 3) rfl rfl (by omega) dL_law_739 ?_
  refine Go_callVI (q := vwCl[9]) F9 cwL_79 imX9_share rfl rfl ⟨Nat.le_of_ble_eq_true rfl, Nat.le_of_ble_eq_true rfl⟩ sh_106 rfl (Nat.le_of_ble_eq_true rfl) sh_rf dL_law_740 ?_
  refine Go_icmp_eq dL_law_743 rfl (fun h743 => ?_) (fun h743 => ?_)
  · skip
    exact hG
  · skip
    exact absurd rfl h743
set_option maxHeartbeats 4000000 in
set_option maxRecDepth 100000 in
theorem law_15 {D : va_G} {ca : Nat → ClassId} {L : Nat} {xs : Nat → Int} {i : Nat} (hL : L ≤ 2560) (hi : i + 5 ≤ L) {M M1 M2 M' : gMem} {r : Int} (F8 : Fn D ca mX8_least [gR 0] SH M [gJ r] SH M1) (F9 : Fn D ca mX9_least [gR 106] SH M1 [gJ r] SH M2) (hG : Go D ca (some (L, xs)) room_1 mL_law 1158 [(0, gS), (1, gR 0), (2, gR 106), (3, gI (i : Int))] [] SH M2 [gI 1] SH M') : Go D ca (some (L, xs)) room_1 mL_law 748 [(0, gS), (1, gR 0), (2, gR 106), (3, gI (i : Int))] [] SH M [gI 1] SH M' := by
  refine Go_aload_n 1 rfl rfl dL_law_748 ?_
  refine Go_callVJ (q := vwCl[8]) F8 cwL_80 imX8_least rfl rfl ⟨Nat.le_of_ble_eq_true rfl, Nat.le_of_ble_eq_true rfl⟩ sh_0 rfl (Nat.le_of_ble_eq_true rfl) sh_rf dL_law_749 ?_
  refine Go_aload_n 2 rfl rfl dL_law_752 ?_
  refine Go_callVJ (q := vwCl[9]) F9 cwL_84 imX9_least rfl rfl ⟨Nat.le_of_ble_eq_true rfl, Nat.le_of_ble_eq_true rfl⟩ sh_106 rfl (Nat.le_of_ble_eq_true rfl) sh_rf dL_law_753 ?_
  refine Go_lcmp dL_law_756 ?_
  refine Go_if_eq dL_law_757 rfl (fun h757 => ?_) (fun h757 => ?_)
  · skip
    replace h757 := cmp_eq.mp h757
    exact hG
  · skip
    replace h757 := cmp_ne.mp h757
    exact absurd rfl h757
set_option maxHeartbeats 4000000 in
set_option maxRecDepth 100000 in
theorem law_16 {D : va_G} {ca : Nat → ClassId} {L : Nat} {xs : Nat → Int} {i : Nat} (hL : L ≤ 2560) (hi : i + 5 ≤ L) {M M1 M2 M' : gMem} {r : Int} (F8 : Fn D ca mX8_best [gR 0] SH M [gI r] SH M1) (F9 : Fn D ca mX9_best [gR 106] SH M1 [gI r] SH M2) (hG : Go D ca (some (L, xs)) room_1 mL_law 1158 [(0, gS), (1, gR 0), (2, gR 106), (3, gI (i : Int))] [] SH M2 [gI 1] SH M') : Go D ca (some (L, xs)) room_1 mL_law 762 [(0, gS), (1, gR 0), (2, gR 106), (3, gI (i : Int))] [] SH M [gI 1] SH M' := by
  refine Go_aload_n 1 rfl rfl dL_law_762 ?_
  refine Go_callVI (q := vwCl[8]) F8 cwL_85 imX8_best rfl rfl ⟨Nat.le_of_ble_eq_true rfl, Nat.le_of_ble_eq_true rfl⟩ sh_0 rfl (Nat.le_of_ble_eq_true rfl) sh_rf dL_law_763 ?_
  refine Go_aload_n 2 rfl rfl dL_law_766 ?_
  refine Go_callVI (q := vwCl[9]) F9 cwL_89 imX9_best rfl rfl ⟨Nat.le_of_ble_eq_true rfl, Nat.le_of_ble_eq_true rfl⟩ sh_106 rfl (Nat.le_of_ble_eq_true rfl) sh_rf dL_law_767 ?_
  refine Go_icmp_eq dL_law_770 rfl (fun h770 => ?_) (fun h770 => ?_)
  · skip
    exact hG
  · skip
    exact absurd rfl h770
set_option maxHeartbeats 4000000 in
set_option maxRecDepth 100000 in
theorem law_17 {D : va_G} {ca : Nat → ClassId} {L : Nat} {xs : Nat → Int} {i : Nat} (hL : L ≤ 2560) (hi : i + 5 ≤ L) {M M1 M2 M' : gMem} {r : Int} (F8 : Fn D ca mX8_many [gR 0] SH M [gI r] SH M1) (F9 : Fn D ca mX9_many [gR 106] SH M1 [gI r] SH M2) (hG : Go D ca (some (L, xs)) room_1 mL_law 1158 [(0, gS), (1, gR 0), (2, gR 106), (3, gI (i : Int))] [] SH M2 [gI 1] SH M') : Go D ca (some (L, xs)) room_1 mL_law 775 [(0, gS), (1, gR 0), (2, gR 106), (3, gI (i : Int))] [] SH M [gI 1] SH M' := by
  refine Go_aload_n 1 rfl rfl dL_law_775 ?_
  refine Go_callVI (q := vwCl[8]) F8 cwL_90 imX8_many rfl rfl ⟨Nat.le_of_ble_eq_true rfl, Nat.le_of_ble_eq_true rfl⟩ sh_0 rfl (Nat.le_of_ble_eq_true rfl) sh_rf dL_law_776 ?_
  refine Go_aload_n 2 rfl rfl dL_law_779 ?_
  refine Go_callVI (q := vwCl[9]) F9 cwL_93 imX9_many rfl rfl ⟨Nat.le_of_ble_eq_true rfl, Nat.le_of_ble_eq_true rfl⟩ sh_106 rfl (Nat.le_of_ble_eq_true rfl) sh_rf dL_law_780 ?_
  refine Go_icmp_eq dL_law_783 rfl (fun h783 => ?_) (fun h783 => ?_)
  · skip
    exact hG
  · skip
    exact absurd rfl h783
set_option maxHeartbeats 4000000 in
set_option maxRecDepth 100000 in
theorem law_18 {D : va_G} {ca : Nat → ClassId} {L : Nat} {xs : Nat → Int} {i : Nat} (hL : L ≤ 2560) (hi : i + 5 ≤ L) {M M1 M2 M' : gMem} {r : Int} (F8 : Fn D ca mX8_every [gR 0, gI (xs (i + 1))] SH M [gI r] SH M1) (F9 : Fn D ca mX9_every [gR 106, gI (xs (i + 1))] SH M1 [gI r] SH M2) (hG : Go D ca (some (L, xs)) room_1 mL_law 1158 [(0, gS), (1, gR 0), (2, gR 106), (3, gI (i : Int))] [] SH M2 [gI 1] SH M') : Go D ca (some (L, xs)) room_1 mL_law 788 [(0, gS), (1, gR 0), (2, gR 106), (3, gI (i : Int))] [] SH M [gI 1] SH M' := by
  refine Go_aload_n 1 rfl rfl dL_law_788 ?_
  refine Go_sload_n 0 rfl rfl dL_law_789 ?_
  refine Go_iload_n 3 rfl rfl dL_law_790 ?_
  refine Go_iconst (by unfold in32; omega) dL_law_791 ?_
  refine Go_iaddn i 1 rfl rfl (by omega) dL_law_792 ?_
  refine Go_sld (i + 1) rfl rfl (by omega) dL_law_793 ?_
  refine Go_callVI (q := vwCl[8]) F8 cwL_94 imX8_every rfl rfl ⟨Nat.le_of_ble_eq_true rfl, Nat.le_of_ble_eq_true rfl⟩ sh_0 rfl (Nat.le_of_ble_eq_true rfl) sh_rf dL_law_794 ?_
  refine Go_aload_n 2 rfl rfl dL_law_797 ?_
  refine Go_sload_n 0 rfl rfl dL_law_798 ?_
  refine Go_iload_n 3 rfl rfl dL_law_799 ?_
  refine Go_iconst (by unfold in32; omega) dL_law_800 ?_
  refine Go_iaddn i 1 rfl rfl (by omega) dL_law_801 ?_
  refine Go_sld (i + 1) rfl rfl (by omega) dL_law_802 ?_
  refine Go_callVI (q := vwCl[9]) F9 cwL_97 imX9_every rfl rfl ⟨Nat.le_of_ble_eq_true rfl, Nat.le_of_ble_eq_true rfl⟩ sh_106 rfl (Nat.le_of_ble_eq_true rfl) sh_rf dL_law_803 ?_
  refine Go_icmp_eq dL_law_806 rfl (fun h806 => ?_) (fun h806 => ?_)
  · skip
    exact hG
  · skip
    exact absurd rfl h806
set_option maxHeartbeats 4000000 in
set_option maxRecDepth 100000 in
theorem law_19 {D : va_G} {ca : Nat → ClassId} {L : Nat} {xs : Nat → Int} {i : Nat} (hL : L ≤ 2560) (hi : i + 5 ≤ L) {M M1 M2 M' : gMem} {r : Int} (F8 : Fn D ca mX8_second [gR 0, gI (xs (i + 1))] SH M [gI r] SH M1) (F9 : Fn D ca mX9_second [gR 106, gI (xs (i + 1))] SH M1 [gI r] SH M2) (hG : Go D ca (some (L, xs)) room_1 mL_law 1158 [(0, gS), (1, gR 0), (2, gR 106), (3, gI (i : Int))] [] SH M2 [gI 1] SH M') : Go D ca (some (L, xs)) room_1 mL_law 811 [(0, gS), (1, gR 0), (2, gR 106), (3, gI (i : Int))] [] SH M [gI 1] SH M' := by
  refine Go_aload_n 1 rfl rfl dL_law_811 ?_
  refine Go_sload_n 0 rfl rfl dL_law_812 ?_
  refine Go_iload_n 3 rfl rfl dL_law_813 ?_
  refine Go_iconst (by unfold in32; omega) dL_law_814 ?_
  refine Go_iaddn i 1 rfl rfl (by omega) dL_law_815 ?_
  refine Go_sld (i + 1) rfl rfl (by omega) dL_law_816 ?_
  refine Go_callVI (q := vwCl[8]) F8 cwL_98 imX8_second rfl rfl ⟨Nat.le_of_ble_eq_true rfl, Nat.le_of_ble_eq_true rfl⟩ sh_0 rfl (Nat.le_of_ble_eq_true rfl) sh_rf dL_law_817 ?_
  refine Go_aload_n 2 rfl rfl dL_law_820 ?_
  refine Go_sload_n 0 rfl rfl dL_law_821 ?_
  refine Go_iload_n 3 rfl rfl dL_law_822 ?_
  refine Go_iconst (by unfold in32; omega) dL_law_823 ?_
  refine Go_iaddn i 1 rfl rfl (by omega) dL_law_824 ?_
  refine Go_sld (i + 1) rfl rfl (by omega) dL_law_825 ?_
  refine Go_callVI (q := vwCl[9]) F9 cwL_101 imX9_second rfl rfl ⟨Nat.le_of_ble_eq_true rfl, Nat.le_of_ble_eq_true rfl⟩ sh_106 rfl (Nat.le_of_ble_eq_true rfl) sh_rf dL_law_826 ?_
  refine Go_icmp_eq dL_law_829 rfl (fun h829 => ?_) (fun h829 => ?_)
  · skip
    exact hG
  · skip
    exact absurd rfl h829
set_option maxHeartbeats 4000000 in
set_option maxRecDepth 100000 in
theorem law_20 {D : va_G} {ca : Nat → ClassId} {L : Nat} {xs : Nat → Int} {i : Nat} (hL : L ≤ 2560) (hi : i + 5 ≤ L) {M M1 M2 M' : gMem} {r : Int} (F8 : Fn D ca mX8_lose [gR 0, gI (xs (i + 1))] SH M [gJ r] SH M1) (F9 : Fn D ca mX9_lose [gR 106, gI (xs (i + 1))] SH M1 [gJ r] SH M2) (hG : Go D ca (some (L, xs)) room_1 mL_law 1158 [(0, gS), (1, gR 0), (2, gR 106), (3, gI (i : Int))] [] SH M2 [gI 1] SH M') : Go D ca (some (L, xs)) room_1 mL_law 834 [(0, gS), (1, gR 0), (2, gR 106), (3, gI (i : Int))] [] SH M [gI 1] SH M' := by
  refine Go_aload_n 1 rfl rfl dL_law_834 ?_
  refine Go_sload_n 0 rfl rfl dL_law_835 ?_
  refine Go_iload_n 3 rfl rfl dL_law_836 ?_
  refine Go_iconst (by unfold in32; omega) dL_law_837 ?_
  refine Go_iaddn i 1 rfl rfl (by omega) dL_law_838 ?_
  refine Go_sld (i + 1) rfl rfl (by omega) dL_law_839 ?_
  refine Go_callVJ (q := vwCl[8]) F8 cwL_102 imX8_lose rfl rfl ⟨Nat.le_of_ble_eq_true rfl, Nat.le_of_ble_eq_true rfl⟩ sh_0 rfl (Nat.le_of_ble_eq_true rfl) sh_rf dL_law_840 ?_
  refine Go_aload_n 2 rfl rfl dL_law_843 ?_
  refine Go_sload_n 0 rfl rfl dL_law_844 ?_
  refine Go_iload_n 3 rfl rfl dL_law_845 ?_
  refine Go_iconst (by unfold in32; omega) dL_law_846 ?_
  refine Go_iaddn i 1 rfl rfl (by omega) dL_law_847 ?_
  refine Go_sld (i + 1) rfl rfl (by omega) dL_law_848 ?_
  refine Go_callVJ (q := vwCl[9]) F9 cwL_105 imX9_lose rfl rfl ⟨Nat.le_of_ble_eq_true rfl, Nat.le_of_ble_eq_true rfl⟩ sh_106 rfl (Nat.le_of_ble_eq_true rfl) sh_rf dL_law_849 ?_
  refine Go_lcmp dL_law_852 ?_
  refine Go_if_eq dL_law_853 rfl (fun h853 => ?_) (fun h853 => ?_)
  · skip
    replace h853 := cmp_eq.mp h853
    exact hG
  · skip
    replace h853 := cmp_ne.mp h853
    exact absurd rfl h853
set_option maxHeartbeats 4000000 in
set_option maxRecDepth 100000 in
theorem law_21 {D : va_G} {ca : Nat → ClassId} {L : Nat} {xs : Nat → Int} {i : Nat} (hL : L ≤ 2560) (hi : i + 5 ≤ L) {M M1 M2 M' : gMem} {r : Int} (F8 : Fn D ca mX8_worst [gR 0] SH M [gI r] SH M1) (F9 : Fn D ca mX9_worst [gR 106] SH M1 [gI r] SH M2) (hG : Go D ca (some (L, xs)) room_1 mL_law 1158 [(0, gS), (1, gR 0), (2, gR 106), (3, gI (i : Int))] [] SH M2 [gI 1] SH M') : Go D ca (some (L, xs)) room_1 mL_law 858 [(0, gS), (1, gR 0), (2, gR 106), (3, gI (i : Int))] [] SH M [gI 1] SH M' := by
  refine Go_aload_n 1 rfl rfl dL_law_858 ?_
  refine Go_callVI (q := vwCl[8]) F8 cwL_106 imX8_worst rfl rfl ⟨Nat.le_of_ble_eq_true rfl, Nat.le_of_ble_eq_true rfl⟩ sh_0 rfl (Nat.le_of_ble_eq_true rfl) sh_rf dL_law_859 ?_
  refine Go_aload_n 2 rfl rfl dL_law_862 ?_
  refine Go_callVI (q := vwCl[9]) F9 cwL_109 imX9_worst rfl rfl ⟨Nat.le_of_ble_eq_true rfl, Nat.le_of_ble_eq_true rfl⟩ sh_106 rfl (Nat.le_of_ble_eq_true rfl) sh_rf dL_law_863 ?_
  refine Go_icmp_eq dL_law_866 rfl (fun h866 => ?_) (fun h866 => ?_)
  · skip
    exact hG
  · skip
    exact absurd rfl h866
set_option maxHeartbeats 4000000 in
set_option maxRecDepth 100000 in
theorem law_22 {D : va_G} {ca : Nat → ClassId} {L : Nat} {xs : Nat → Int} {i : Nat} (hL : L ≤ 2560) (hi : i + 5 ≤ L) {M M1 M2 M' : gMem} {r : Int} (F8 : Fn D ca mX8_farthest [gR 0] SH M [gI r] SH M1) (F9 : Fn D ca mX9_farthest [gR 106] SH M1 [gI r] SH M2) (hG : Go D ca (some (L, xs)) room_1 mL_law 1158 [(0, gS), (1, gR 0), (2, gR 106), (3, gI (i : Int))] [] SH M2 [gI 1] SH M') : Go D ca (some (L, xs)) room_1 mL_law 871 [(0, gS), (1, gR 0), (2, gR 106), (3, gI (i : Int))] [] SH M [gI 1] SH M' := by
  refine Go_aload_n 1 rfl rfl dL_law_871 ?_
  refine Go_callVI (q := vwCl[8]) F8 cwL_110 imX8_farthest rfl rfl ⟨Nat.le_of_ble_eq_true rfl, Nat.le_of_ble_eq_true rfl⟩ sh_0 rfl (Nat.le_of_ble_eq_true rfl) sh_rf dL_law_872 ?_
  refine Go_aload_n 2 rfl rfl dL_law_875 ?_
  refine Go_callVI (q := vwCl[9]) F9 cwL_113 imX9_farthest rfl rfl ⟨Nat.le_of_ble_eq_true rfl, Nat.le_of_ble_eq_true rfl⟩ sh_106 rfl (Nat.le_of_ble_eq_true rfl) sh_rf dL_law_876 ?_
  refine Go_icmp_eq dL_law_879 rfl (fun h879 => ?_) (fun h879 => ?_)
  · skip
    exact hG
  · skip
    exact absurd rfl h879
set_option maxHeartbeats 4000000 in
set_option maxRecDepth 100000 in
theorem law_23 {D : va_G} {ca : Nat → ClassId} {L : Nat} {xs : Nat → Int} {i : Nat} (hL : L ≤ 2560) (hi : i + 5 ≤ L) {M M1 M2 M' : gMem} {r : Int} (F8 : Fn D ca mX8_nearest [gR 0] SH M [gI r] SH M1) (F9 : Fn D ca mX9_nearest [gR 106] SH M1 [gI r] SH M2) (hG : Go D ca (some (L, xs)) room_1 mL_law 1158 [(0, gS), (1, gR 0), (2, gR 106), (3, gI (i : Int))] [] SH M2 [gI 1] SH M') : Go D ca (some (L, xs)) room_1 mL_law 884 [(0, gS), (1, gR 0), (2, gR 106), (3, gI (i : Int))] [] SH M [gI 1] SH M' := by
  refine Go_aload_n 1 rfl rfl dL_law_884 ?_
  refine Go_callVI (q := vwCl[8]) F8 cwL_114 imX8_nearest rfl rfl ⟨Nat.le_of_ble_eq_true rfl, Nat.le_of_ble_eq_true rfl⟩ sh_0 rfl (Nat.le_of_ble_eq_true rfl) sh_rf dL_law_885 ?_
  refine Go_aload_n 2 rfl rfl dL_law_888 ?_
  refine Go_callVI (q := vwCl[9]) F9 cwL_117 imX9_nearest rfl rfl ⟨Nat.le_of_ble_eq_true rfl, Nat.le_of_ble_eq_true rfl⟩ sh_106 rfl (Nat.le_of_ble_eq_true rfl) sh_rf dL_law_889 ?_
  refine Go_icmp_eq dL_law_892 rfl (fun h892 => ?_) (fun h892 => ?_)
  · skip
    exact hG
  · skip
    exact absurd rfl h892
set_option maxHeartbeats 4000000 in
set_option maxRecDepth 100000 in
theorem law_24 {D : va_G} {ca : Nat → ClassId} {L : Nat} {xs : Nat → Int} {i : Nat} (hL : L ≤ 2560) (hi : i + 5 ≤ L) {M M1 M2 M' : gMem} {r : Int} (F8 : Fn D ca mX8_added [gR 0] SH M [gI r] SH M1) (F9 : Fn D ca mX9_added [gR 106] SH M1 [gI r] SH M2) (hG : Go D ca (some (L, xs)) room_1 mL_law 1158 [(0, gS), (1, gR 0), (2, gR 106), (3, gI (i : Int))] [] SH M2 [gI 1] SH M') : Go D ca (some (L, xs)) room_1 mL_law 897 [(0, gS), (1, gR 0), (2, gR 106), (3, gI (i : Int))] [] SH M [gI 1] SH M' := by
  refine Go_aload_n 1 rfl rfl dL_law_897 ?_
  refine Go_callVI (q := vwCl[8]) F8 cwL_118 imX8_added rfl rfl ⟨Nat.le_of_ble_eq_true rfl, Nat.le_of_ble_eq_true rfl⟩ sh_0 rfl (Nat.le_of_ble_eq_true rfl) sh_rf dL_law_898 ?_
  refine Go_aload_n 2 rfl rfl dL_law_901 ?_
  refine Go_callVI (q := vwCl[9]) F9 cwL_121 imX9_added rfl rfl ⟨Nat.le_of_ble_eq_true rfl, Nat.le_of_ble_eq_true rfl⟩ sh_106 rfl (Nat.le_of_ble_eq_true rfl) sh_rf dL_law_902 ?_
  refine Go_icmp_eq dL_law_905 rfl (fun h905 => ?_) (fun h905 => ?_)
  · skip
    exact hG
  · skip
    exact absurd rfl h905
set_option maxHeartbeats 4000000 in
set_option maxRecDepth 100000 in
theorem law_25 {D : va_G} {ca : Nat → ClassId} {L : Nat} {xs : Nat → Int} {i : Nat} (hL : L ≤ 2560) (hi : i + 5 ≤ L) {M M1 M2 M' : gMem} {r : Int} (F8 : Fn D ca mX8_changed [gR 0, gI (xs (i + 1))] SH M [gI r] SH M1) (F9 : Fn D ca mX9_changed [gR 106, gI (xs (i + 1))] SH M1 [gI r] SH M2) (hG : Go D ca (some (L, xs)) room_1 mL_law 1158 [(0, gS), (1, gR 0), (2, gR 106), (3, gI (i : Int))] [] SH M2 [gI 1] SH M') : Go D ca (some (L, xs)) room_1 mL_law 910 [(0, gS), (1, gR 0), (2, gR 106), (3, gI (i : Int))] [] SH M [gI 1] SH M' := by
  refine Go_aload_n 1 rfl rfl dL_law_910 ?_
  refine Go_sload_n 0 rfl rfl dL_law_911 ?_
  refine Go_iload_n 3 rfl rfl dL_law_912 ?_
  refine Go_iconst (by unfold in32; omega) dL_law_913 ?_
  refine Go_iaddn i 1 rfl rfl (by omega) dL_law_914 ?_
  refine Go_sld (i + 1) rfl rfl (by omega) dL_law_915 ?_
  refine Go_callVI (q := vwCl[8]) F8 cwL_122 imX8_changed rfl rfl ⟨Nat.le_of_ble_eq_true rfl, Nat.le_of_ble_eq_true rfl⟩ sh_0 rfl (Nat.le_of_ble_eq_true rfl) sh_rf dL_law_916 ?_
  refine Go_aload_n 2 rfl rfl dL_law_919 ?_
  refine Go_sload_n 0 rfl rfl dL_law_920 ?_
  refine Go_iload_n 3 rfl rfl dL_law_921 ?_
  refine Go_iconst (by unfold in32; omega) dL_law_922 ?_
  refine Go_iaddn i 1 rfl rfl (by omega) dL_law_923 ?_
  refine Go_sld (i + 1) rfl rfl (by omega) dL_law_924 ?_
  refine Go_callVI (q := vwCl[9]) F9 cwL_125 imX9_changed rfl rfl ⟨Nat.le_of_ble_eq_true rfl, Nat.le_of_ble_eq_true rfl⟩ sh_106 rfl (Nat.le_of_ble_eq_true rfl) sh_rf dL_law_925 ?_
  refine Go_icmp_eq dL_law_928 rfl (fun h928 => ?_) (fun h928 => ?_)
  · skip
    exact hG
  · skip
    exact absurd rfl h928
set_option maxHeartbeats 4000000 in
set_option maxRecDepth 100000 in
theorem law_26 {D : va_G} {ca : Nat → ClassId} {L : Nat} {xs : Nat → Int} {i : Nat} (hL : L ≤ 2560) (hi : i + 5 ≤ L) {M M1 M2 M' : gMem} {r : Int} (F8 : Fn D ca mX8_moves [gR 0] SH M [gI r] SH M1) (F9 : Fn D ca mX9_moves [gR 106] SH M1 [gI r] SH M2) (hG : Go D ca (some (L, xs)) room_1 mL_law 1158 [(0, gS), (1, gR 0), (2, gR 106), (3, gI (i : Int))] [] SH M2 [gI 1] SH M') : Go D ca (some (L, xs)) room_1 mL_law 933 [(0, gS), (1, gR 0), (2, gR 106), (3, gI (i : Int))] [] SH M [gI 1] SH M' := by
  refine Go_aload_n 1 rfl rfl dL_law_933 ?_
  refine Go_callVI (q := vwCl[8]) F8 cwL_126 imX8_moves rfl rfl ⟨Nat.le_of_ble_eq_true rfl, Nat.le_of_ble_eq_true rfl⟩ sh_0 rfl (Nat.le_of_ble_eq_true rfl) sh_rf dL_law_934 ?_
  refine Go_aload_n 2 rfl rfl dL_law_937 ?_
  refine Go_callVI (q := vwCl[9]) F9 cwL_129 imX9_moves rfl rfl ⟨Nat.le_of_ble_eq_true rfl, Nat.le_of_ble_eq_true rfl⟩ sh_106 rfl (Nat.le_of_ble_eq_true rfl) sh_rf dL_law_938 ?_
  refine Go_icmp_eq dL_law_941 rfl (fun h941 => ?_) (fun h941 => ?_)
  · skip
    exact hG
  · skip
    exact absurd rfl h941
set_option maxHeartbeats 4000000 in
set_option maxRecDepth 100000 in
theorem law_27 {D : va_G} {ca : Nat → ClassId} {L : Nat} {xs : Nat → Int} {i : Nat} (hL : L ≤ 2560) (hi : i + 5 ≤ L) {M M1 M2 M' : gMem} {r : Int} (F8 : Fn D ca mX8_price [gR 0, gI (xs (i + 1)), gI (xs (i + 2))] SH M [gI r] SH M1) (F9 : Fn D ca mX9_price [gR 106, gI (xs (i + 1)), gI (xs (i + 2))] SH M1 [gI r] SH M2) (hG : Go D ca (some (L, xs)) room_1 mL_law 1158 [(0, gS), (1, gR 0), (2, gR 106), (3, gI (i : Int))] [] SH M2 [gI 1] SH M') : Go D ca (some (L, xs)) room_1 mL_law 946 [(0, gS), (1, gR 0), (2, gR 106), (3, gI (i : Int))] [] SH M [gI 1] SH M' := by
  refine Go_aload_n 1 rfl rfl dL_law_946 ?_
  refine Go_sload_n 0 rfl rfl dL_law_947 ?_
  refine Go_iload_n 3 rfl rfl dL_law_948 ?_
  refine Go_iconst (by unfold in32; omega) dL_law_949 ?_
  refine Go_iaddn i 1 rfl rfl (by omega) dL_law_950 ?_
  refine Go_sld (i + 1) rfl rfl (by omega) dL_law_951 ?_
  refine Go_sload_n 0 rfl rfl dL_law_952 ?_
  refine Go_iload_n 3 rfl rfl dL_law_953 ?_
  refine Go_iconst (by unfold in32; omega) dL_law_954 ?_
  refine Go_iaddn i 2 rfl rfl (by omega) dL_law_955 ?_
  refine Go_sld (i + 2) rfl rfl (by omega) dL_law_956 ?_
  refine Go_callVI (q := vwCl[8]) F8 cwL_130 imX8_price rfl rfl ⟨Nat.le_of_ble_eq_true rfl, Nat.le_of_ble_eq_true rfl⟩ sh_0 rfl (Nat.le_of_ble_eq_true rfl) sh_rf dL_law_957 ?_
  refine Go_aload_n 2 rfl rfl dL_law_960 ?_
  refine Go_sload_n 0 rfl rfl dL_law_961 ?_
  refine Go_iload_n 3 rfl rfl dL_law_962 ?_
  refine Go_iconst (by unfold in32; omega) dL_law_963 ?_
  refine Go_iaddn i 1 rfl rfl (by omega) dL_law_964 ?_
  refine Go_sld (i + 1) rfl rfl (by omega) dL_law_965 ?_
  refine Go_sload_n 0 rfl rfl dL_law_966 ?_
  refine Go_iload_n 3 rfl rfl dL_law_967 ?_
  refine Go_iconst (by unfold in32; omega) dL_law_968 ?_
  refine Go_iaddn i 2 rfl rfl (by omega) dL_law_969 ?_
  refine Go_sld (i + 2) rfl rfl (by omega) dL_law_970 ?_
  refine Go_callVI (q := vwCl[9]) F9 cwL_133 imX9_price rfl rfl ⟨Nat.le_of_ble_eq_true rfl, Nat.le_of_ble_eq_true rfl⟩ sh_106 rfl (Nat.le_of_ble_eq_true rfl) sh_rf dL_law_971 ?_
  refine Go_icmp_eq dL_law_974 rfl (fun h974 => ?_) (fun h974 => ?_)
  · skip
    exact hG
  · skip
    exact absurd rfl h974
set_option maxHeartbeats 4000000 in
set_option maxRecDepth 100000 in
theorem law_28 {D : va_G} {ca : Nat → ClassId} {L : Nat} {xs : Nat → Int} {i : Nat} (hL : L ≤ 2560) (hi : i + 5 ≤ L) {M M1 M2 M' : gMem} {r : Int} (F8 : Fn D ca mX8_priced [gR 0, gI (xs (i + 1))] SH M [gJ r] SH M1) (F9 : Fn D ca mX9_priced [gR 106, gI (xs (i + 1))] SH M1 [gJ r] SH M2) (hG : Go D ca (some (L, xs)) room_1 mL_law 1158 [(0, gS), (1, gR 0), (2, gR 106), (3, gI (i : Int))] [] SH M2 [gI 1] SH M') : Go D ca (some (L, xs)) room_1 mL_law 979 [(0, gS), (1, gR 0), (2, gR 106), (3, gI (i : Int))] [] SH M [gI 1] SH M' := by
  refine Go_aload_n 1 rfl rfl dL_law_979 ?_
  refine Go_sload_n 0 rfl rfl dL_law_980 ?_
  refine Go_iload_n 3 rfl rfl dL_law_981 ?_
  refine Go_iconst (by unfold in32; omega) dL_law_982 ?_
  refine Go_iaddn i 1 rfl rfl (by omega) dL_law_983 ?_
  refine Go_sld (i + 1) rfl rfl (by omega) dL_law_984 ?_
  refine Go_callVJ (q := vwCl[8]) F8 cwL_134 imX8_priced rfl rfl ⟨Nat.le_of_ble_eq_true rfl, Nat.le_of_ble_eq_true rfl⟩ sh_0 rfl (Nat.le_of_ble_eq_true rfl) sh_rf dL_law_985 ?_
  refine Go_aload_n 2 rfl rfl dL_law_988 ?_
  refine Go_sload_n 0 rfl rfl dL_law_989 ?_
  refine Go_iload_n 3 rfl rfl dL_law_990 ?_
  refine Go_iconst (by unfold in32; omega) dL_law_991 ?_
  refine Go_iaddn i 1 rfl rfl (by omega) dL_law_992 ?_
  refine Go_sld (i + 1) rfl rfl (by omega) dL_law_993 ?_
  refine Go_callVJ (q := vwCl[9]) F9 cwL_137 imX9_priced rfl rfl ⟨Nat.le_of_ble_eq_true rfl, Nat.le_of_ble_eq_true rfl⟩ sh_106 rfl (Nat.le_of_ble_eq_true rfl) sh_rf dL_law_994 ?_
  refine Go_lcmp dL_law_997 ?_
  refine Go_if_eq dL_law_998 rfl (fun h998 => ?_) (fun h998 => ?_)
  · skip
    replace h998 := cmp_eq.mp h998
    exact hG
  · skip
    replace h998 := cmp_ne.mp h998
    exact absurd rfl h998
set_option maxHeartbeats 4000000 in
set_option maxRecDepth 100000 in
theorem law_29 {D : va_G} {ca : Nat → ClassId} {L : Nat} {xs : Nat → Int} {i : Nat} (hL : L ≤ 2560) (hi : i + 5 ≤ L) {M M1 M2 M' : gMem} {r : Int} (F8 : Fn D ca mX8_gives [gR 0, gI (xs (i + 1)), gI (xs (i + 2))] SH M [gJ r] SH M1) (F9 : Fn D ca mX9_gives [gR 106, gI (xs (i + 1)), gI (xs (i + 2))] SH M1 [gJ r] SH M2) (hG : Go D ca (some (L, xs)) room_1 mL_law 1158 [(0, gS), (1, gR 0), (2, gR 106), (3, gI (i : Int))] [] SH M2 [gI 1] SH M') : Go D ca (some (L, xs)) room_1 mL_law 1003 [(0, gS), (1, gR 0), (2, gR 106), (3, gI (i : Int))] [] SH M [gI 1] SH M' := by
  refine Go_aload_n 1 rfl rfl dL_law_1003 ?_
  refine Go_sload_n 0 rfl rfl dL_law_1004 ?_
  refine Go_iload_n 3 rfl rfl dL_law_1005 ?_
  refine Go_iconst (by unfold in32; omega) dL_law_1006 ?_
  refine Go_iaddn i 1 rfl rfl (by omega) dL_law_1007 ?_
  refine Go_sld (i + 1) rfl rfl (by omega) dL_law_1008 ?_
  refine Go_sload_n 0 rfl rfl dL_law_1009 ?_
  refine Go_iload_n 3 rfl rfl dL_law_1010 ?_
  refine Go_iconst (by unfold in32; omega) dL_law_1011 ?_
  refine Go_iaddn i 2 rfl rfl (by omega) dL_law_1012 ?_
  refine Go_sld (i + 2) rfl rfl (by omega) dL_law_1013 ?_
  refine Go_callVJ (q := vwCl[8]) F8 cwL_138 imX8_gives rfl rfl ⟨Nat.le_of_ble_eq_true rfl, Nat.le_of_ble_eq_true rfl⟩ sh_0 rfl (Nat.le_of_ble_eq_true rfl) sh_rf dL_law_1014 ?_
  refine Go_aload_n 2 rfl rfl dL_law_1017 ?_
  refine Go_sload_n 0 rfl rfl dL_law_1018 ?_
  refine Go_iload_n 3 rfl rfl dL_law_1019 ?_
  refine Go_iconst (by unfold in32; omega) dL_law_1020 ?_
  refine Go_iaddn i 1 rfl rfl (by omega) dL_law_1021 ?_
  refine Go_sld (i + 1) rfl rfl (by omega) dL_law_1022 ?_
  refine Go_sload_n 0 rfl rfl dL_law_1023 ?_
  refine Go_iload_n 3 rfl rfl dL_law_1024 ?_
  refine Go_iconst (by unfold in32; omega) dL_law_1025 ?_
  refine Go_iaddn i 2 rfl rfl (by omega) dL_law_1026 ?_
  refine Go_sld (i + 2) rfl rfl (by omega) dL_law_1027 ?_
  refine Go_callVJ (q := vwCl[9]) F9 cwL_142 imX9_gives rfl rfl ⟨Nat.le_of_ble_eq_true rfl, Nat.le_of_ble_eq_true rfl⟩ sh_106 rfl (Nat.le_of_ble_eq_true rfl) sh_rf dL_law_1028 ?_
  refine Go_lcmp dL_law_1031 ?_
  refine Go_if_eq dL_law_1032 rfl (fun h1032 => ?_) (fun h1032 => ?_)
  · skip
    replace h1032 := cmp_eq.mp h1032
    exact hG
  · skip
    replace h1032 := cmp_ne.mp h1032
    exact absurd rfl h1032
set_option maxHeartbeats 4000000 in
set_option maxRecDepth 100000 in
theorem law_30 {D : va_G} {ca : Nat → ClassId} {L : Nat} {xs : Nat → Int} {i : Nat} (hL : L ≤ 2560) (hi : i + 5 ≤ L) {M M1 M2 M' : gMem} {r : Int} (F8 : Fn D ca mX8_worth [gR 0, gI (xs (i + 1))] SH M [gJ r] SH M1) (F9 : Fn D ca mX9_worth [gR 106, gI (xs (i + 1))] SH M1 [gJ r] SH M2) (hG : Go D ca (some (L, xs)) room_1 mL_law 1158 [(0, gS), (1, gR 0), (2, gR 106), (3, gI (i : Int))] [] SH M2 [gI 1] SH M') : Go D ca (some (L, xs)) room_1 mL_law 1037 [(0, gS), (1, gR 0), (2, gR 106), (3, gI (i : Int))] [] SH M [gI 1] SH M' := by
  refine Go_aload_n 1 rfl rfl dL_law_1037 ?_
  refine Go_sload_n 0 rfl rfl dL_law_1038 ?_
  refine Go_iload_n 3 rfl rfl dL_law_1039 ?_
  refine Go_iconst (by unfold in32; omega) dL_law_1040 ?_
  refine Go_iaddn i 1 rfl rfl (by omega) dL_law_1041 ?_
  refine Go_sld (i + 1) rfl rfl (by omega) dL_law_1042 ?_
  refine Go_callVJ (q := vwCl[8]) F8 cwL_143 imX8_worth rfl rfl ⟨Nat.le_of_ble_eq_true rfl, Nat.le_of_ble_eq_true rfl⟩ sh_0 rfl (Nat.le_of_ble_eq_true rfl) sh_rf dL_law_1043 ?_
  refine Go_aload_n 2 rfl rfl dL_law_1046 ?_
  refine Go_sload_n 0 rfl rfl dL_law_1047 ?_
  refine Go_iload_n 3 rfl rfl dL_law_1048 ?_
  refine Go_iconst (by unfold in32; omega) dL_law_1049 ?_
  refine Go_iaddn i 1 rfl rfl (by omega) dL_law_1050 ?_
  refine Go_sld (i + 1) rfl rfl (by omega) dL_law_1051 ?_
  refine Go_callVJ (q := vwCl[9]) F9 cwL_146 imX9_worth rfl rfl ⟨Nat.le_of_ble_eq_true rfl, Nat.le_of_ble_eq_true rfl⟩ sh_106 rfl (Nat.le_of_ble_eq_true rfl) sh_rf dL_law_1052 ?_
  refine Go_lcmp dL_law_1055 ?_
  refine Go_if_eq dL_law_1056 rfl (fun h1056 => ?_) (fun h1056 => ?_)
  · skip
    replace h1056 := cmp_eq.mp h1056
    exact hG
  · skip
    replace h1056 := cmp_ne.mp h1056
    exact absurd rfl h1056
set_option maxHeartbeats 4000000 in
set_option maxRecDepth 100000 in
theorem law_31 {D : va_G} {ca : Nat → ClassId} {L : Nat} {xs : Nat → Int} {i : Nat} (hL : L ≤ 2560) (hi : i + 5 ≤ L) {M M1 M2 M' : gMem} {r : Int} (F8 : Fn D ca mX8_bound [gR 0] SH M [gJ r] SH M1) (F9 : Fn D ca mX9_bound [gR 106] SH M1 [gJ r] SH M2) (hG : Go D ca (some (L, xs)) room_1 mL_law 1158 [(0, gS), (1, gR 0), (2, gR 106), (3, gI (i : Int))] [] SH M2 [gI 1] SH M') : Go D ca (some (L, xs)) room_1 mL_law 1061 [(0, gS), (1, gR 0), (2, gR 106), (3, gI (i : Int))] [] SH M [gI 1] SH M' := by
  refine Go_aload_n 1 rfl rfl dL_law_1061 ?_
  refine Go_callVJ (q := vwCl[8]) F8 cwL_147 imX8_bound rfl rfl ⟨Nat.le_of_ble_eq_true rfl, Nat.le_of_ble_eq_true rfl⟩ sh_0 rfl (Nat.le_of_ble_eq_true rfl) sh_rf dL_law_1062 ?_
  refine Go_aload_n 2 rfl rfl dL_law_1065 ?_
  refine Go_callVJ (q := vwCl[9]) F9 cwL_150 imX9_bound rfl rfl ⟨Nat.le_of_ble_eq_true rfl, Nat.le_of_ble_eq_true rfl⟩ sh_106 rfl (Nat.le_of_ble_eq_true rfl) sh_rf dL_law_1066 ?_
  refine Go_lcmp dL_law_1069 ?_
  refine Go_if_eq dL_law_1070 rfl (fun h1070 => ?_) (fun h1070 => ?_)
  · skip
    replace h1070 := cmp_eq.mp h1070
    exact hG
  · skip
    replace h1070 := cmp_ne.mp h1070
    exact absurd rfl h1070
set_option maxHeartbeats 4000000 in
set_option maxRecDepth 100000 in
theorem law_32 {D : va_G} {ca : Nat → ClassId} {L : Nat} {xs : Nat → Int} {i : Nat} (hL : L ≤ 2560) (hi : i + 5 ≤ L) {M M1 M2 M' : gMem} {r : Int} (F8 : Fn D ca mX8_climb [gR 0, gI (xs (i + 1)), gI (xs (i + 2))] SH M [gI r] SH M1) (F9 : Fn D ca mX9_climb [gR 106, gI (xs (i + 1)), gI (xs (i + 2))] SH M1 [gI r] SH M2) (hG : Go D ca (some (L, xs)) room_1 mL_law 1158 [(0, gS), (1, gR 0), (2, gR 106), (3, gI (i : Int))] [] SH M2 [gI 1] SH M') : Go D ca (some (L, xs)) room_1 mL_law 1075 [(0, gS), (1, gR 0), (2, gR 106), (3, gI (i : Int))] [] SH M [gI 1] SH M' := by
  refine Go_aload_n 1 rfl rfl dL_law_1075 ?_
  refine Go_sload_n 0 rfl rfl dL_law_1076 ?_
  refine Go_iload_n 3 rfl rfl dL_law_1077 ?_
  refine Go_iconst (by unfold in32; omega) dL_law_1078 ?_
  refine Go_iaddn i 1 rfl rfl (by omega) dL_law_1079 ?_
  refine Go_sld (i + 1) rfl rfl (by omega) dL_law_1080 ?_
  refine Go_sload_n 0 rfl rfl dL_law_1081 ?_
  refine Go_iload_n 3 rfl rfl dL_law_1082 ?_
  refine Go_iconst (by unfold in32; omega) dL_law_1083 ?_
  refine Go_iaddn i 2 rfl rfl (by omega) dL_law_1084 ?_
  refine Go_sld (i + 2) rfl rfl (by omega) dL_law_1085 ?_
  refine Go_callVI (q := vwCl[8]) F8 cwL_151 imX8_climb rfl rfl ⟨Nat.le_of_ble_eq_true rfl, Nat.le_of_ble_eq_true rfl⟩ sh_0 rfl (Nat.le_of_ble_eq_true rfl) sh_rf dL_law_1086 ?_
  refine Go_aload_n 2 rfl rfl dL_law_1089 ?_
  refine Go_sload_n 0 rfl rfl dL_law_1090 ?_
  refine Go_iload_n 3 rfl rfl dL_law_1091 ?_
  refine Go_iconst (by unfold in32; omega) dL_law_1092 ?_
  refine Go_iaddn i 1 rfl rfl (by omega) dL_law_1093 ?_
  refine Go_sld (i + 1) rfl rfl (by omega) dL_law_1094 ?_
  refine Go_sload_n 0 rfl rfl dL_law_1095 ?_
  refine Go_iload_n 3 rfl rfl dL_law_1096 ?_
  refine Go_iconst (by unfold in32; omega) dL_law_1097 ?_
  refine Go_iaddn i 2 rfl rfl (by omega) dL_law_1098 ?_
  refine Go_sld (i + 2) rfl rfl (by omega) dL_law_1099 ?_
  refine Go_callVI (q := vwCl[9]) F9 cwL_154 imX9_climb rfl rfl ⟨Nat.le_of_ble_eq_true rfl, Nat.le_of_ble_eq_true rfl⟩ sh_106 rfl (Nat.le_of_ble_eq_true rfl) sh_rf dL_law_1100 ?_
  refine Go_icmp_eq dL_law_1103 rfl (fun h1103 => ?_) (fun h1103 => ?_)
  · skip
    exact hG
  · skip
    exact absurd rfl h1103
set_option maxHeartbeats 4000000 in
set_option maxRecDepth 100000 in
theorem law_33 {D : va_G} {ca : Nat → ClassId} {L : Nat} {xs : Nat → Int} {i : Nat} (hL : L ≤ 2560) (hi : i + 5 ≤ L) {M M1 M2 M' : gMem} {r : Int} (F8 : Fn D ca mX8_highest [gR 0] SH M [gJ r] SH M1) (F9 : Fn D ca mX9_highest [gR 106] SH M1 [gJ r] SH M2) (hG : Go D ca (some (L, xs)) room_1 mL_law 1158 [(0, gS), (1, gR 0), (2, gR 106), (3, gI (i : Int))] [] SH M2 [gI 1] SH M') : Go D ca (some (L, xs)) room_1 mL_law 1108 [(0, gS), (1, gR 0), (2, gR 106), (3, gI (i : Int))] [] SH M [gI 1] SH M' := by
  refine Go_aload_n 1 rfl rfl dL_law_1108 ?_
  refine Go_callVJ (q := vwCl[8]) F8 cwL_155 imX8_highest rfl rfl ⟨Nat.le_of_ble_eq_true rfl, Nat.le_of_ble_eq_true rfl⟩ sh_0 rfl (Nat.le_of_ble_eq_true rfl) sh_rf dL_law_1109 ?_
  refine Go_aload_n 2 rfl rfl dL_law_1112 ?_
  refine Go_callVJ (q := vwCl[9]) F9 cwL_158 imX9_highest rfl rfl ⟨Nat.le_of_ble_eq_true rfl, Nat.le_of_ble_eq_true rfl⟩ sh_106 rfl (Nat.le_of_ble_eq_true rfl) sh_rf dL_law_1113 ?_
  refine Go_lcmp dL_law_1116 ?_
  refine Go_if_eq dL_law_1117 rfl (fun h1117 => ?_) (fun h1117 => ?_)
  · skip
    replace h1117 := cmp_eq.mp h1117
    exact hG
  · skip
    replace h1117 := cmp_ne.mp h1117
    exact absurd rfl h1117
set_option maxHeartbeats 4000000 in
set_option maxRecDepth 100000 in
theorem law_34 {D : va_G} {ca : Nat → ClassId} {L : Nat} {xs : Nat → Int} {i : Nat} (hL : L ≤ 2560) (hi : i + 5 ≤ L) {M M1 M2 M' : gMem} {r : Int} (F8 : Fn D ca mX8_undo [gR 0] SH M [gI r] SH M1) (F9 : Fn D ca mX9_undo [gR 106] SH M1 [gI r] SH M2) (hG : Go D ca (some (L, xs)) room_1 mL_law 1158 [(0, gS), (1, gR 0), (2, gR 106), (3, gI (i : Int))] [] SH M2 [gI 1] SH M') : Go D ca (some (L, xs)) room_1 mL_law 1122 [(0, gS), (1, gR 0), (2, gR 106), (3, gI (i : Int))] [] SH M [gI 1] SH M' := by
  refine Go_aload_n 1 rfl rfl dL_law_1122 ?_
  refine Go_callVI (q := vwCl[8]) F8 cwL_159 imX8_undo rfl rfl ⟨Nat.le_of_ble_eq_true rfl, Nat.le_of_ble_eq_true rfl⟩ sh_0 rfl (Nat.le_of_ble_eq_true rfl) sh_rf dL_law_1123 ?_
  refine Go_aload_n 2 rfl rfl dL_law_1126 ?_
  refine Go_callVI (q := vwCl[9]) F9 cwL_162 imX9_undo rfl rfl ⟨Nat.le_of_ble_eq_true rfl, Nat.le_of_ble_eq_true rfl⟩ sh_106 rfl (Nat.le_of_ble_eq_true rfl) sh_rf dL_law_1127 ?_
  refine Go_icmp_eq dL_law_1130 rfl (fun h1130 => ?_) (fun h1130 => ?_)
  · skip
    exact hG
  · skip
    exact absurd rfl h1130
set_option maxHeartbeats 4000000 in
set_option maxRecDepth 100000 in
theorem law_35 {D : va_G} {ca : Nat → ClassId} {L : Nat} {xs : Nat → Int} {i : Nat} (hL : L ≤ 2560) (hi : i + 5 ≤ L) {M M1 M2 M' : gMem} {r : Int} (F8 : Fn D ca mX8_count [gR 0, gI (xs (i + 1))] SH M [gI r] SH M1) (F9 : Fn D ca mX9_count [gR 106, gI (xs (i + 1))] SH M1 [gI r] SH M2) (hG : Go D ca (some (L, xs)) room_1 mL_law 1158 [(0, gS), (1, gR 0), (2, gR 106), (3, gI (i : Int))] [] SH M2 [gI 1] SH M') : Go D ca (some (L, xs)) room_1 mL_law 1135 [(0, gS), (1, gR 0), (2, gR 106), (3, gI (i : Int))] [] SH M [gI 1] SH M' := by
  refine Go_aload_n 1 rfl rfl dL_law_1135 ?_
  refine Go_sload_n 0 rfl rfl dL_law_1136 ?_
  refine Go_iload_n 3 rfl rfl dL_law_1137 ?_
  refine Go_iconst (by unfold in32; omega) dL_law_1138 ?_
  refine Go_iaddn i 1 rfl rfl (by omega) dL_law_1139 ?_
  refine Go_sld (i + 1) rfl rfl (by omega) dL_law_1140 ?_
  refine Go_callVI (q := vwCl[8]) F8 cwL_163 imX8_count rfl rfl ⟨Nat.le_of_ble_eq_true rfl, Nat.le_of_ble_eq_true rfl⟩ sh_0 rfl (Nat.le_of_ble_eq_true rfl) sh_rf dL_law_1141 ?_
  refine Go_aload_n 2 rfl rfl dL_law_1144 ?_
  refine Go_sload_n 0 rfl rfl dL_law_1145 ?_
  refine Go_iload_n 3 rfl rfl dL_law_1146 ?_
  refine Go_iconst (by unfold in32; omega) dL_law_1147 ?_
  refine Go_iaddn i 1 rfl rfl (by omega) dL_law_1148 ?_
  refine Go_sld (i + 1) rfl rfl (by omega) dL_law_1149 ?_
  refine Go_callVI (q := vwCl[9]) F9 cwL_166 imX9_count rfl rfl ⟨Nat.le_of_ble_eq_true rfl, Nat.le_of_ble_eq_true rfl⟩ sh_106 rfl (Nat.le_of_ble_eq_true rfl) sh_rf dL_law_1150 ?_
  refine Go_icmp_eq dL_law_1153 rfl (fun h1153 => ?_) (fun h1153 => ?_)
  · skip
    exact hG
  · skip
    exact absurd rfl h1153
