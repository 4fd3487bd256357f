set_option maxRecDepth 100000 in
set_option maxHeartbeats 4000000 in
theorem fL_law_300_J1543_T (xs : Nat → Int32) (n : Nat) (σ : St) (v4 : Int32) {kb : St → Int32 → Option (Bool × St)} (hkb : ∀ (σ' : St) (w4 : Int32), T (kL_law xs n) cSz σ' 23 [(0, .ref 300), (1, .ref 0), (2, .ref 10), (3, .ref 88), (4, .int w4)] [] (kb σ' w4)) : T (kL_law xs n) cSz σ 1543 [(0, .ref 300), (1, .ref 0), (2, .ref 10), (3, .ref 88), (4, .int v4)] [] (fL_law_300_J1543 xs n kb σ v4) := by
  unfold fL_law_300_J1543
  refine T_iinc (pc := 1543) (y := 6) (lv' := [(0, .ref 300), (1, .ref 0), (2, .ref 10), (3, .ref 88), (4, .int (v4 + (6 : Int32)))]) 4 dL_law_1543 (by decide) rfl (Nat.le_of_ble_eq_true rfl) rfl ?_
  refine T_goto (pc := 1546) 23 dL_law_1546 (by decide) ?_
  exact hkb σ (v4 + (6 : Int32))
set_option maxRecDepth 100000 in
set_option maxHeartbeats 4000000 in
theorem fL_law_300_L23_T (xs : Nat → Int32) (n : Nat) (σ : St) {kb : St → Int32 → Option (Bool × St)} (hkb : ∀ (σ' : St) (w4 : Int32), T (kL_law xs n) cSz σ' 23 [(0, .ref 300), (1, .ref 0), (2, .ref 10), (3, .ref 88), (4, .int w4)] [] (kb σ' w4)) (v4 : Int32) : T (kL_law xs n) cSz σ 23 [(0, .ref 300), (1, .ref 0), (2, .ref 10), (3, .ref 88), (4, .int v4)] [] (fL_law_300_L23 xs n kb σ v4) := by
  unfold fL_law_300_L23
  refine T_iload (pc := 23) 4 dL_law_23 rfl ?_
  refine T_aload_n (pc := 25) 0 dL_law_25 rfl rfl ?_
  refine T_slen (pc := 26) rfl dL_law_26 ?_
  refine T_bipush (pc := 27) (v := 6) dL_law_27 (by decide) ?_
  refine T_isub (pc := 29) dL_law_29 ?_
  refine T_icmp_gt (pc := 30) 1549 dL_law_30 (by decide) (fun _ => ?_) (fun _ => ?_)
  · refine T_iconst (pc := 1549) (v := 1) dL_law_1549 (by decide) ?_
    exact T_zreturn (pc := 1550) true rfl dL_law_1550 rfl rfl
  · refine T_aload_n (pc := 33) 0 dL_law_33 rfl rfl ?_
    refine T_iload (pc := 34) 4 dL_law_34 rfl ?_
    refine T_sld (pc := 36) rfl dL_law_36 (fun x1 => ?_)
    refine T_bipush (pc := 37) (v := 63) dL_law_37 (by decide) ?_
    refine T_iand (pc := 39) dL_law_39 ?_
    refine T_ite (fun h0 => ?_) (fun h0 => ?_)
    · refine T_tabIn (pc := 40) (off := 172) 212 dL_law_40 (by rw [h0]; decide) (by rw [h0]; decide) (by rw [h0]; rfl) (by decide) ?_
      refine T_aload_n (pc := 212) 1 dL_law_212 rfl rfl ?_
      refine T_aload_n (pc := 213) 0 dL_law_213 rfl rfl ?_
      refine T_iload (pc := 214) 4 dL_law_214 rfl ?_
      refine T_iconst (pc := 216) (v := 1) dL_law_216 (by decide) ?_
      refine T_iadd (pc := 217) dL_law_217 ?_
      refine T_sld (pc := 218) rfl dL_law_218 (fun x2 => ?_)
      refine T_aload_n (pc := 219) 0 dL_law_219 rfl rfl ?_
      refine T_iload (pc := 220) 4 dL_law_220 rfl ?_
      refine T_iconst (pc := 222) (v := 2) dL_law_222 (by decide) ?_
      refine T_iadd (pc := 223) dL_law_223 ?_
      refine T_sld (pc := 224) rfl dL_law_224 (fun x3 => ?_)
      refine T_aload_n (pc := 225) 0 dL_law_225 rfl rfl ?_
      refine T_iload (pc := 226) 4 dL_law_226 rfl ?_
      refine T_iconst (pc := 228) (v := 3) dL_law_228 (by decide) ?_
      refine T_iadd (pc := 229) dL_law_229 ?_
      refine T_sld (pc := 230) rfl dL_law_230 (fun x4 => ?_)
      refine T_aload_n (pc := 231) 0 dL_law_231 rfl rfl ?_
      refine T_iload (pc := 232) 4 dL_law_232 rfl ?_
      refine T_iconst (pc := 234) (v := 4) dL_law_234 (by decide) ?_
      refine T_iadd (pc := 235) dL_law_235 ?_
      refine T_sld (pc := 236) rfl dL_law_236 (fun x5 => ?_)
      refine T_aload_n (pc := 237) 0 dL_law_237 rfl rfl ?_
      refine T_iload (pc := 238) 4 dL_law_238 rfl ?_
      refine T_iconst (pc := 240) (v := 5) dL_law_240 (by decide) ?_
      refine T_iadd (pc := 241) dL_law_241 ?_
      refine T_sld (pc := 242) rfl dL_law_242 (fun x6 => ?_)
      refine T_callSi (pc := 243) (rest := []) (Rn_V (pc := 243) (as := [.int x2, .int x3, .int x4, .int x5, .int x6]) (rest := []) (ctX11_feed σ x2 x3 x4 x5 x6) rfl rfl mv_X11_feed hw473 rfl ⟨Nat.le_of_ble_eq_true rfl, Nat.le_of_ble_eq_true rfl⟩ (Nat.le_of_ble_eq_true rfl) dL_law_243 rfl) rfl (fun r7 => ?_)
      refine T_aload_n (pc := 246) 2 dL_law_246 rfl rfl ?_
      refine T_aload_n (pc := 247) 0 dL_law_247 rfl rfl ?_
      refine T_iload (pc := 248) 4 dL_law_248 rfl ?_
      refine T_iconst (pc := 250) (v := 1) dL_law_250 (by decide) ?_
      refine T_iadd (pc := 251) dL_law_251 ?_
      refine T_sld (pc := 252) rfl dL_law_252 (fun x8 => ?_)
      refine T_aload_n (pc := 253) 0 dL_law_253 rfl rfl ?_
      refine T_iload (pc := 254) 4 dL_law_254 rfl ?_
      refine T_iconst (pc := 256) (v := 2) dL_law_256 (by decide) ?_
      refine T_iadd (pc := 257) dL_law_257 ?_
      refine T_sld (pc := 258) rfl dL_law_258 (fun x9 => ?_)
      refine T_aload_n (pc := 259) 0 dL_law_259 rfl rfl ?_
      refine T_iload (pc := 260) 4 dL_law_260 rfl ?_
      refine T_iconst (pc := 262) (v := 3) dL_law_262 (by decide) ?_
      refine T_iadd (pc := 263) dL_law_263 ?_
      refine T_sld (pc := 264) rfl dL_law_264 (fun x10 => ?_)
      refine T_aload_n (pc := 265) 0 dL_law_265 rfl rfl ?_
      refine T_iload (pc := 266) 4 dL_law_266 rfl ?_
      refine T_iconst (pc := 268) (v := 4) dL_law_268 (by decide) ?_
      refine T_iadd (pc := 269) dL_law_269 ?_
      refine T_sld (pc := 270) rfl dL_law_270 (fun x11 => ?_)
      refine T_aload_n (pc := 271) 0 dL_law_271 rfl rfl ?_
      refine T_iload (pc := 272) 4 dL_law_272 rfl ?_
      refine T_iconst (pc := 274) (v := 5) dL_law_274 (by decide) ?_
      refine T_iadd (pc := 275) dL_law_275 ?_
      refine T_sld (pc := 276) rfl dL_law_276 (fun x12 => ?_)
      refine T_callSi (pc := 277) (rest := [.int r7.1]) (Rn_V (pc := 277) (as := [.int x8, .int x9, .int x10, .int x11, .int x12]) (rest := [.int r7.1]) (ctX12_feed r7.2 x8 x9 x10 x11 x12) rfl rfl mv_X12_feed hw1670 rfl ⟨Nat.le_of_ble_eq_true rfl, Nat.le_of_ble_eq_true rfl⟩ (Nat.le_of_ble_eq_true rfl) dL_law_277 rfl) rfl (fun r13 => ?_)
      refine T_icmp_eq (pc := 280) 1543 dL_law_280 (by decide) (fun _ => ?_) (fun _ => ?_)
      · exact fL_law_300_J1543_T xs n (hkb := hkb) r13.2 v4
      · refine T_iconst (pc := 283) (v := 0) dL_law_283 (by decide) ?_
        exact T_zreturn (pc := 284) false rfl dL_law_284 rfl rfl
    · refine T_ite (fun h1 => ?_) (fun h1 => ?_)
      · refine T_tabIn (pc := 40) (off := 245) 285 dL_law_40 (by rw [h1]; decide) (by rw [h1]; decide) (by rw [h1]; rfl) (by decide) ?_
        refine T_aload_n (pc := 285) 1 dL_law_285 rfl rfl ?_
        refine T_aload_n (pc := 286) 0 dL_law_286 rfl rfl ?_
        refine T_iload (pc := 287) 4 dL_law_287 rfl ?_
        refine T_iconst (pc := 289) (v := 1) dL_law_289 (by decide) ?_
        refine T_iadd (pc := 290) dL_law_290 ?_
        refine T_sld (pc := 291) rfl dL_law_291 (fun x14 => ?_)
        refine T_callSz (pc := 292) (rest := []) (Rn_V (pc := 292) (as := [.int x14]) (rest := []) (ctX11_end σ x14) rfl rfl mv_X11_end hw488 rfl ⟨Nat.le_of_ble_eq_true rfl, Nat.le_of_ble_eq_true rfl⟩ (Nat.le_of_ble_eq_true rfl) dL_law_292 rfl) rfl (fun r15 => ?_)
        refine T_aload_n (pc := 295) 2 dL_law_295 rfl rfl ?_
        refine T_aload_n (pc := 296) 0 dL_law_296 rfl rfl ?_
        refine T_iload (pc := 297) 4 dL_law_297 rfl ?_
        refine T_iconst (pc := 299) (v := 1) dL_law_299 (by decide) ?_
        refine T_iadd (pc := 300) dL_law_300 ?_
        refine T_sld (pc := 301) rfl dL_law_301 (fun x16 => ?_)
        refine T_callSz (pc := 302) (rest := [.int (bi r15.1)]) (Rn_V (pc := 302) (as := [.int x16]) (rest := [.int (bi r15.1)]) (ctX12_end r15.2 x16) rfl rfl mv_X12_end hw1681 rfl ⟨Nat.le_of_ble_eq_true rfl, Nat.le_of_ble_eq_true rfl⟩ (Nat.le_of_ble_eq_true rfl) dL_law_302 rfl) rfl (fun r17 => ?_)
        refine T_icmp_eq (pc := 305) 1543 dL_law_305 (by decide) (fun _ => ?_) (fun _ => ?_)
        · exact fL_law_300_J1543_T xs n (hkb := hkb) r17.2 v4
        · refine T_iconst (pc := 308) (v := 0) dL_law_308 (by decide) ?_
          exact T_zreturn (pc := 309) false rfl dL_law_309 rfl rfl
      · refine T_ite (fun h2 => ?_) (fun h2 => ?_)
        · refine T_tabIn (pc := 40) (off := 270) 310 dL_law_40 (by rw [h2]; decide) (by rw [h2]; decide) (by rw [h2]; rfl) (by decide) ?_
          refine T_aload_n (pc := 310) 1 dL_law_310 rfl rfl ?_
          refine T_aload_n (pc := 311) 0 dL_law_311 rfl rfl ?_
          refine T_iload (pc := 312) 4 dL_law_312 rfl ?_
          refine T_iconst (pc := 314) (v := 1) dL_law_314 (by decide) ?_
          refine T_iadd (pc := 315) dL_law_315 ?_
          refine T_sld (pc := 316) rfl dL_law_316 (fun x18 => ?_)
          refine T_callSi (pc := 317) (rest := []) (Rn_V (pc := 317) (as := [.int x18]) (rest := []) (ctX11_fault σ x18) rfl rfl mv_X11_fault hw496 rfl ⟨Nat.le_of_ble_eq_true rfl, Nat.le_of_ble_eq_true rfl⟩ (Nat.le_of_ble_eq_true rfl) dL_law_317 rfl) rfl (fun r19 => ?_)
          refine T_aload_n (pc := 320) 2 dL_law_320 rfl rfl ?_
          refine T_aload_n (pc := 321) 0 dL_law_321 rfl rfl ?_
          refine T_iload (pc := 322) 4 dL_law_322 rfl ?_
          refine T_iconst (pc := 324) (v := 1) dL_law_324 (by decide) ?_
          refine T_iadd (pc := 325) dL_law_325 ?_
          refine T_sld (pc := 326) rfl dL_law_326 (fun x20 => ?_)
          refine T_callSi (pc := 327) (rest := [.int r19.1]) (Rn_V (pc := 327) (as := [.int x20]) (rest := [.int r19.1]) (ctX12_fault r19.2 x20) rfl rfl mv_X12_fault hw1685 rfl ⟨Nat.le_of_ble_eq_true rfl, Nat.le_of_ble_eq_true rfl⟩ (Nat.le_of_ble_eq_true rfl) dL_law_327 rfl) rfl (fun r21 => ?_)
          refine T_icmp_eq (pc := 330) 1543 dL_law_330 (by decide) (fun _ => ?_) (fun _ => ?_)
          · exact fL_law_300_J1543_T xs n (hkb := hkb) r21.2 v4
          · refine T_iconst (pc := 333) (v := 0) dL_law_333 (by decide) ?_
            exact T_zreturn (pc := 334) false rfl dL_law_334 rfl rfl
        · refine T_ite (fun h3 => ?_) (fun h3 => ?_)
          · refine T_tabIn (pc := 40) (off := 295) 335 dL_law_40 (by rw [h3]; decide) (by rw [h3]; decide) (by rw [h3]; rfl) (by decide) ?_
            refine T_aload_n (pc := 335) 1 dL_law_335 rfl rfl ?_
            refine T_aload_n (pc := 336) 0 dL_law_336 rfl rfl ?_
            refine T_iload (pc := 337) 4 dL_law_337 rfl ?_
            refine T_iconst (pc := 339) (v := 1) dL_law_339 (by decide) ?_
            refine T_iadd (pc := 340) dL_law_340 ?_
            refine T_sld (pc := 341) rfl dL_law_341 (fun x22 => ?_)
            refine T_callSi (pc := 342) (rest := []) (Rn_V (pc := 342) (as := [.int x22]) (rest := []) (ctX11_text σ x22) rfl rfl mv_X11_text hw720 rfl ⟨Nat.le_of_ble_eq_true rfl, Nat.le_of_ble_eq_true rfl⟩ (Nat.le_of_ble_eq_true rfl) dL_law_342 rfl) rfl (fun r23 => ?_)
            refine T_aload_n (pc := 345) 2 dL_law_345 rfl rfl ?_
            refine T_aload_n (pc := 346) 0 dL_law_346 rfl rfl ?_
            refine T_iload (pc := 347) 4 dL_law_347 rfl ?_
            refine T_iconst (pc := 349) (v := 1) dL_law_349 (by decide) ?_
            refine T_iadd (pc := 350) dL_law_350 ?_
            refine T_sld (pc := 351) rfl dL_law_351 (fun x24 => ?_)
            refine T_callSi (pc := 352) (rest := [.int r23.1]) (Rn_V (pc := 352) (as := [.int x24]) (rest := [.int r23.1]) (ctX12_text r23.2 x24) rfl rfl mv_X12_text hw1840 rfl ⟨Nat.le_of_ble_eq_true rfl, Nat.le_of_ble_eq_true rfl⟩ (Nat.le_of_ble_eq_true rfl) dL_law_352 rfl) rfl (fun r25 => ?_)
            refine T_icmp_eq (pc := 355) 1543 dL_law_355 (by decide) (fun _ => ?_) (fun _ => ?_)
            · exact fL_law_300_J1543_T xs n (hkb := hkb) r25.2 v4
            · refine T_iconst (pc := 358) (v := 0) dL_law_358 (by decide) ?_
              exact T_zreturn (pc := 359) false rfl dL_law_359 rfl rfl
          · refine T_ite (fun h4 => ?_) (fun h4 => ?_)
            · refine T_tabIn (pc := 40) (off := 320) 360 dL_law_40 (by rw [h4]; decide) (by rw [h4]; decide) (by rw [h4]; rfl) (by decide) ?_
              refine T_aload_n (pc := 360) 1 dL_law_360 rfl rfl ?_
              refine T_aload_n (pc := 361) 0 dL_law_361 rfl rfl ?_
              refine T_iload (pc := 362) 4 dL_law_362 rfl ?_
              refine T_iconst (pc := 364) (v := 1) dL_law_364 (by decide) ?_
              refine T_iadd (pc := 365) dL_law_365 ?_
              refine T_sld (pc := 366) rfl dL_law_366 (fun x26 => ?_)
              refine T_aload_n (pc := 367) 0 dL_law_367 rfl rfl ?_
              refine T_iload (pc := 368) 4 dL_law_368 rfl ?_
              refine T_iconst (pc := 370) (v := 2) dL_law_370 (by decide) ?_
              refine T_iadd (pc := 371) dL_law_371 ?_
              refine T_sld (pc := 372) rfl dL_law_372 (fun x27 => ?_)
              refine T_aload_n (pc := 373) 3 dL_law_373 rfl rfl ?_
              refine T_callSi (pc := 374) (rest := []) (RnL_speech (pc := 374) (rest := []) σ x26 x27 xs n (Nat.le_of_ble_eq_true rfl) dL_law_374 rfl) rfl (fun r28 => ?_)
              refine T_istore (pc := 377) (lv' := [(0, .ref 300), (1, .ref 0), (2, .ref 10), (3, .ref 88), (4, .int v4), (5, .int r28.1)]) dL_law_377 (Nat.le_of_ble_eq_true rfl) rfl ?_
              refine T_aload_n (pc := 379) 2 dL_law_379 rfl rfl ?_
              refine T_aload_n (pc := 380) 0 dL_law_380 rfl rfl ?_
              refine T_iload (pc := 381) 4 dL_law_381 rfl ?_
              refine T_iconst (pc := 383) (v := 1) dL_law_383 (by decide) ?_
              refine T_iadd (pc := 384) dL_law_384 ?_
              refine T_sld (pc := 385) rfl dL_law_385 (fun x29 => ?_)
              refine T_aload_n (pc := 386) 0 dL_law_386 rfl rfl ?_
              refine T_iload (pc := 387) 4 dL_law_387 rfl ?_
              refine T_iconst (pc := 389) (v := 2) dL_law_389 (by decide) ?_
              refine T_iadd (pc := 390) dL_law_390 ?_
              refine T_sld (pc := 391) rfl dL_law_391 (fun x30 => ?_)
              refine T_callSi (pc := 392) (rest := []) (Rn_V (pc := 392) (as := [.int x29, .int x30]) (rest := []) (ctX12_speech r28.2 x29 x30) rfl rfl mv_X12_speech hw1845 rfl ⟨Nat.le_of_ble_eq_true rfl, Nat.le_of_ble_eq_true rfl⟩ (Nat.le_of_ble_eq_true rfl) dL_law_392 rfl) rfl (fun r31 => ?_)
              refine T_istore (pc := 395) (lv' := [(0, .ref 300), (1, .ref 0), (2, .ref 10), (3, .ref 88), (4, .int v4), (5, .int r28.1), (6, .int r31.1)]) dL_law_395 (Nat.le_of_ble_eq_true rfl) rfl ?_
              refine T_aload_n (pc := 397) 2 dL_law_397 rfl rfl ?_
              refine T_callPi (pc := 398) (rest := []) (Rn_V (pc := 398) (as := []) (rest := []) (ctX12_thrown r31.2) rfl rfl mv_X12_thrown hw1666 rfl ⟨Nat.le_of_ble_eq_true rfl, Nat.le_of_ble_eq_true rfl⟩ (Nat.le_of_ble_eq_true rfl) dL_law_398 rfl) rfl (fun x32 => ?_)
              refine T_iload (pc := 401) 5 dL_law_401 rfl ?_
              refine T_icmp_eq (pc := 403) 408 dL_law_403 (by decide) (fun _ => ?_) (fun _ => ?_)
              · refine T_iload (pc := 408) 5 dL_law_408 rfl ?_
                refine T_if_ne (pc := 410) 425 dL_law_410 (by decide) (fun _ => ?_) (fun _ => ?_)
                · refine T_goto (pc := 425) 1543 dL_law_425 (by decide) ?_
                  refine T_pick (lv' := [(0, .ref 300), (1, .ref 0), (2, .ref 10), (3, .ref 88), (4, .int v4)]) [0, 1, 2, 3, 4] rfl ?_
                  exact fL_law_300_J1543_T xs n (hkb := hkb) r31.2 v4
                · refine T_aload_n (pc := 413) 3 dL_law_413 rfl rfl ?_
                  refine T_iconst (pc := 414) (v := 0) dL_law_414 (by decide) ?_
                  refine T_lald (pc := 415) rfl dL_law_415 (fun x33 => ?_)
                  refine T_iload (pc := 416) 6 dL_law_416 rfl ?_
                  refine T_i2l (pc := 418) dL_law_418 ?_
                  refine T_lcmp (pc := 419) dL_law_419 ?_
                  refine T_if_eq (pc := 420) 425 dL_law_420 (by decide) (fun _ => ?_) (fun _ => ?_)
                  · refine T_goto (pc := 425) 1543 dL_law_425 (by decide) ?_
                    refine T_pick (lv' := [(0, .ref 300), (1, .ref 0), (2, .ref 10), (3, .ref 88), (4, .int v4)]) [0, 1, 2, 3, 4] rfl ?_
                    exact fL_law_300_J1543_T xs n (hkb := hkb) r31.2 v4
                  · refine T_iconst (pc := 423) (v := 0) dL_law_423 (by decide) ?_
                    exact T_zreturn (pc := 424) false rfl dL_law_424 rfl rfl
              · refine T_iconst (pc := 406) (v := 0) dL_law_406 (by decide) ?_
                exact T_zreturn (pc := 407) false rfl dL_law_407 rfl rfl
            · refine T_ite (fun h5 => ?_) (fun h5 => ?_)
              · refine T_tabIn (pc := 40) (off := 388) 428 dL_law_40 (by rw [h5]; decide) (by rw [h5]; decide) (by rw [h5]; rfl) (by decide) ?_
                refine T_aload_n (pc := 428) 1 dL_law_428 rfl rfl ?_
                refine T_aload_n (pc := 429) 0 dL_law_429 rfl rfl ?_
                refine T_iload (pc := 430) 4 dL_law_430 rfl ?_
                refine T_iconst (pc := 432) (v := 1) dL_law_432 (by decide) ?_
                refine T_iadd (pc := 433) dL_law_433 ?_
                refine T_sld (pc := 434) rfl dL_law_434 (fun x34 => ?_)
                refine T_callPi (pc := 435) (rest := []) (Rn_V (pc := 435) (as := [.int x34]) (rest := []) (ctX11_many σ x34) rfl rfl mv_X11_many hw778 rfl ⟨Nat.le_of_ble_eq_true rfl, Nat.le_of_ble_eq_true rfl⟩ (Nat.le_of_ble_eq_true rfl) dL_law_435 rfl) rfl (fun x35 => ?_)
                refine T_aload_n (pc := 438) 2 dL_law_438 rfl rfl ?_
                refine T_aload_n (pc := 439) 0 dL_law_439 rfl rfl ?_
                refine T_iload (pc := 440) 4 dL_law_440 rfl ?_
                refine T_iconst (pc := 442) (v := 1) dL_law_442 (by decide) ?_
                refine T_iadd (pc := 443) dL_law_443 ?_
                refine T_sld (pc := 444) rfl dL_law_444 (fun x36 => ?_)
                refine T_callSi (pc := 445) (rest := [.int x35]) (Rn_V (pc := 445) (as := [.int x36]) (rest := [.int x35]) (ctX12_many σ x36) rfl rfl mv_X12_many hw1857 rfl ⟨Nat.le_of_ble_eq_true rfl, Nat.le_of_ble_eq_true rfl⟩ (Nat.le_of_ble_eq_true rfl) dL_law_445 rfl) rfl (fun r37 => ?_)
                refine T_icmp_eq (pc := 448) 1543 dL_law_448 (by decide) (fun _ => ?_) (fun _ => ?_)
                · exact fL_law_300_J1543_T xs n (hkb := hkb) r37.2 v4
                · refine T_iconst (pc := 451) (v := 0) dL_law_451 (by decide) ?_
                  exact T_zreturn (pc := 452) false rfl dL_law_452 rfl rfl
              · refine T_ite (fun h6 => ?_) (fun h6 => ?_)
                · refine T_tabIn (pc := 40) (off := 413) 453 dL_law_40 (by rw [h6]; decide) (by rw [h6]; decide) (by rw [h6]; rfl) (by decide) ?_
                  refine T_aload_n (pc := 453) 1 dL_law_453 rfl rfl ?_
                  refine T_aload_n (pc := 454) 0 dL_law_454 rfl rfl ?_
                  refine T_iload (pc := 455) 4 dL_law_455 rfl ?_
                  refine T_iconst (pc := 457) (v := 1) dL_law_457 (by decide) ?_
                  refine T_iadd (pc := 458) dL_law_458 ?_
                  refine T_sld (pc := 459) rfl dL_law_459 (fun x38 => ?_)
                  refine T_aload_n (pc := 460) 0 dL_law_460 rfl rfl ?_
                  refine T_iload (pc := 461) 4 dL_law_461 rfl ?_
                  refine T_iconst (pc := 463) (v := 2) dL_law_463 (by decide) ?_
                  refine T_iadd (pc := 464) dL_law_464 ?_
                  refine T_sld (pc := 465) rfl dL_law_465 (fun x39 => ?_)
                  refine T_callPi (pc := 466) (rest := []) (Rn_V (pc := 466) (as := [.int x38, .int x39]) (rest := []) (ctX11_ends σ x38 x39) rfl rfl mv_X11_ends hw790 rfl ⟨Nat.le_of_ble_eq_true rfl, Nat.le_of_ble_eq_true rfl⟩ (Nat.le_of_ble_eq_true rfl) dL_law_466 rfl) rfl (fun x40 => ?_)
                  refine T_aload_n (pc := 469) 2 dL_law_469 rfl rfl ?_
                  refine T_aload_n (pc := 470) 0 dL_law_470 rfl rfl ?_
                  refine T_iload (pc := 471) 4 dL_law_471 rfl ?_
                  refine T_iconst (pc := 473) (v := 1) dL_law_473 (by decide) ?_
                  refine T_iadd (pc := 474) dL_law_474 ?_
                  refine T_sld (pc := 475) rfl dL_law_475 (fun x41 => ?_)
                  refine T_aload_n (pc := 476) 0 dL_law_476 rfl rfl ?_
                  refine T_iload (pc := 477) 4 dL_law_477 rfl ?_
                  refine T_iconst (pc := 479) (v := 2) dL_law_479 (by decide) ?_
                  refine T_iadd (pc := 480) dL_law_480 ?_
                  refine T_sld (pc := 481) rfl dL_law_481 (fun x42 => ?_)
                  refine T_callSi (pc := 482) (rest := [.int x40]) (Rn_V (pc := 482) (as := [.int x41, .int x42]) (rest := [.int x40]) (ctX12_ends σ x41 x42) rfl rfl mv_X12_ends hw1861 rfl ⟨Nat.le_of_ble_eq_true rfl, Nat.le_of_ble_eq_true rfl⟩ (Nat.le_of_ble_eq_true rfl) dL_law_482 rfl) rfl (fun r43 => ?_)
                  refine T_icmp_eq (pc := 485) 1543 dL_law_485 (by decide) (fun _ => ?_) (fun _ => ?_)
                  · exact fL_law_300_J1543_T xs n (hkb := hkb) r43.2 v4
                  · refine T_iconst (pc := 488) (v := 0) dL_law_488 (by decide) ?_
                    exact T_zreturn (pc := 489) false rfl dL_law_489 rfl rfl
                · refine T_ite (fun h7 => ?_) (fun h7 => ?_)
                  · refine T_tabIn (pc := 40) (off := 450) 490 dL_law_40 (by rw [h7]; decide) (by rw [h7]; decide) (by rw [h7]; rfl) (by decide) ?_
                    refine T_aload_n (pc := 490) 1 dL_law_490 rfl rfl ?_
                    refine T_aload_n (pc := 491) 0 dL_law_491 rfl rfl ?_
                    refine T_iload (pc := 492) 4 dL_law_492 rfl ?_
                    refine T_iconst (pc := 494) (v := 1) dL_law_494 (by decide) ?_
                    refine T_iadd (pc := 495) dL_law_495 ?_
                    refine T_sld (pc := 496) rfl dL_law_496 (fun x44 => ?_)
                    refine T_aload_n (pc := 497) 0 dL_law_497 rfl rfl ?_
                    refine T_iload (pc := 498) 4 dL_law_498 rfl ?_
                    refine T_iconst (pc := 500) (v := 2) dL_law_500 (by decide) ?_
                    refine T_iadd (pc := 501) dL_law_501 ?_
                    refine T_sld (pc := 502) rfl dL_law_502 (fun x45 => ?_)
                    refine T_callSi (pc := 503) (rest := []) (Rn_V (pc := 503) (as := [.int x44, .int x45]) (rest := []) (ctX11_far σ x44 x45) rfl rfl mv_X11_far hw823 rfl ⟨Nat.le_of_ble_eq_true rfl, Nat.le_of_ble_eq_true rfl⟩ (Nat.le_of_ble_eq_true rfl) dL_law_503 rfl) rfl (fun r46 => ?_)
                    refine T_aload_n (pc := 506) 2 dL_law_506 rfl rfl ?_
                    refine T_aload_n (pc := 507) 0 dL_law_507 rfl rfl ?_
                    refine T_iload (pc := 508) 4 dL_law_508 rfl ?_
                    refine T_iconst (pc := 510) (v := 1) dL_law_510 (by decide) ?_
                    refine T_iadd (pc := 511) dL_law_511 ?_
                    refine T_sld (pc := 512) rfl dL_law_512 (fun x47 => ?_)
                    refine T_aload_n (pc := 513) 0 dL_law_513 rfl rfl ?_
                    refine T_iload (pc := 514) 4 dL_law_514 rfl ?_
                    refine T_iconst (pc := 516) (v := 2) dL_law_516 (by decide) ?_
                    refine T_iadd (pc := 517) dL_law_517 ?_
                    refine T_sld (pc := 518) rfl dL_law_518 (fun x48 => ?_)
                    refine T_callSi (pc := 519) (rest := [.int r46.1]) (Rn_V (pc := 519) (as := [.int x47, .int x48]) (rest := [.int r46.1]) (ctX12_far r46.2 x47 x48) rfl rfl mv_X12_far hw1877 rfl ⟨Nat.le_of_ble_eq_true rfl, Nat.le_of_ble_eq_true rfl⟩ (Nat.le_of_ble_eq_true rfl) dL_law_519 rfl) rfl (fun r49 => ?_)
                    refine T_icmp_eq (pc := 522) 1543 dL_law_522 (by decide) (fun _ => ?_) (fun _ => ?_)
                    · exact fL_law_300_J1543_T xs n (hkb := hkb) r49.2 v4
                    · refine T_iconst (pc := 525) (v := 0) dL_law_525 (by decide) ?_
                      exact T_zreturn (pc := 526) false rfl dL_law_526 rfl rfl
                  · refine T_ite (fun h8 => ?_) (fun h8 => ?_)
                    · refine T_tabIn (pc := 40) (off := 487) 527 dL_law_40 (by rw [h8]; decide) (by rw [h8]; decide) (by rw [h8]; rfl) (by decide) ?_
                      refine T_aload_n (pc := 527) 1 dL_law_527 rfl rfl ?_
                      refine T_aload_n (pc := 528) 0 dL_law_528 rfl rfl ?_
                      refine T_iload (pc := 529) 4 dL_law_529 rfl ?_
                      refine T_iconst (pc := 531) (v := 1) dL_law_531 (by decide) ?_
                      refine T_iadd (pc := 532) dL_law_532 ?_
                      refine T_sld (pc := 533) rfl dL_law_533 (fun x50 => ?_)
                      refine T_callSz (pc := 534) (rest := []) (Rn_V (pc := 534) (as := [.int x50]) (rest := []) (ctX11_limit σ x50) rfl rfl mv_X11_limit hw853 rfl ⟨Nat.le_of_ble_eq_true rfl, Nat.le_of_ble_eq_true rfl⟩ (Nat.le_of_ble_eq_true rfl) dL_law_534 rfl) rfl (fun r51 => ?_)
                      refine T_aload_n (pc := 537) 2 dL_law_537 rfl rfl ?_
                      refine T_aload_n (pc := 538) 0 dL_law_538 rfl rfl ?_
                      refine T_iload (pc := 539) 4 dL_law_539 rfl ?_
                      refine T_iconst (pc := 541) (v := 1) dL_law_541 (by decide) ?_
                      refine T_iadd (pc := 542) dL_law_542 ?_
                      refine T_sld (pc := 543) rfl dL_law_543 (fun x52 => ?_)
                      refine T_callSz (pc := 544) (rest := [.int (bi r51.1)]) (Rn_V (pc := 544) (as := [.int x52]) (rest := [.int (bi r51.1)]) (ctX12_limit r51.2 x52) rfl rfl mv_X12_limit hw1899 rfl ⟨Nat.le_of_ble_eq_true rfl, Nat.le_of_ble_eq_true rfl⟩ (Nat.le_of_ble_eq_true rfl) dL_law_544 rfl) rfl (fun r53 => ?_)
                      refine T_icmp_eq (pc := 547) 1543 dL_law_547 (by decide) (fun _ => ?_) (fun _ => ?_)
                      · exact fL_law_300_J1543_T xs n (hkb := hkb) r53.2 v4
                      · refine T_iconst (pc := 550) (v := 0) dL_law_550 (by decide) ?_
                        exact T_zreturn (pc := 551) false rfl dL_law_551 rfl rfl
                    · refine T_ite (fun h9 => ?_) (fun h9 => ?_)
                      · refine T_tabIn (pc := 40) (off := 512) 552 dL_law_40 (by rw [h9]; decide) (by rw [h9]; decide) (by rw [h9]; rfl) (by decide) ?_
                        refine T_aload_n (pc := 552) 1 dL_law_552 rfl rfl ?_
                        refine T_aload_n (pc := 553) 0 dL_law_553 rfl rfl ?_
                        refine T_iload (pc := 554) 4 dL_law_554 rfl ?_
                        refine T_iconst (pc := 556) (v := 1) dL_law_556 (by decide) ?_
                        refine T_iadd (pc := 557) dL_law_557 ?_
                        refine T_sld (pc := 558) rfl dL_law_558 (fun x54 => ?_)
                        refine T_aload_n (pc := 559) 0 dL_law_559 rfl rfl ?_
                        refine T_iload (pc := 560) 4 dL_law_560 rfl ?_
                        refine T_iconst (pc := 562) (v := 2) dL_law_562 (by decide) ?_
                        refine T_iadd (pc := 563) dL_law_563 ?_
                        refine T_sld (pc := 564) rfl dL_law_564 (fun x55 => ?_)
                        refine T_callSi (pc := 565) (rest := []) (Rn_V (pc := 565) (as := [.int x54, .int x55]) (rest := []) (ctX11_kind σ x54 x55) rfl rfl mv_X11_kind hw861 rfl ⟨Nat.le_of_ble_eq_true rfl, Nat.le_of_ble_eq_true rfl⟩ (Nat.le_of_ble_eq_true rfl) dL_law_565 rfl) rfl (fun r56 => ?_)
                        refine T_aload_n (pc := 568) 2 dL_law_568 rfl rfl ?_
                        refine T_aload_n (pc := 569) 0 dL_law_569 rfl rfl ?_
                        refine T_iload (pc := 570) 4 dL_law_570 rfl ?_
                        refine T_iconst (pc := 572) (v := 1) dL_law_572 (by decide) ?_
                        refine T_iadd (pc := 573) dL_law_573 ?_
                        refine T_sld (pc := 574) rfl dL_law_574 (fun x57 => ?_)
                        refine T_aload_n (pc := 575) 0 dL_law_575 rfl rfl ?_
                        refine T_iload (pc := 576) 4 dL_law_576 rfl ?_
                        refine T_iconst (pc := 578) (v := 2) dL_law_578 (by decide) ?_
                        refine T_iadd (pc := 579) dL_law_579 ?_
                        refine T_sld (pc := 580) rfl dL_law_580 (fun x58 => ?_)
                        refine T_callSi (pc := 581) (rest := [.int r56.1]) (Rn_V (pc := 581) (as := [.int x57, .int x58]) (rest := [.int r56.1]) (ctX12_kind r56.2 x57 x58) rfl rfl mv_X12_kind hw1903 rfl ⟨Nat.le_of_ble_eq_true rfl, Nat.le_of_ble_eq_true rfl⟩ (Nat.le_of_ble_eq_true rfl) dL_law_581 rfl) rfl (fun r59 => ?_)
                        refine T_icmp_eq (pc := 584) 1543 dL_law_584 (by decide) (fun _ => ?_) (fun _ => ?_)
                        · exact fL_law_300_J1543_T xs n (hkb := hkb) r59.2 v4
                        · refine T_iconst (pc := 587) (v := 0) dL_law_587 (by decide) ?_
                          exact T_zreturn (pc := 588) false rfl dL_law_588 rfl rfl
                      · refine T_ite (fun h10 => ?_) (fun h10 => ?_)
                        · refine T_tabIn (pc := 40) (off := 549) 589 dL_law_40 (by rw [h10]; decide) (by rw [h10]; decide) (by rw [h10]; rfl) (by decide) ?_
                          refine T_aload_n (pc := 589) 1 dL_law_589 rfl rfl ?_
                          refine T_aload_n (pc := 590) 0 dL_law_590 rfl rfl ?_
                          refine T_iload (pc := 591) 4 dL_law_591 rfl ?_
                          refine T_iconst (pc := 593) (v := 1) dL_law_593 (by decide) ?_
                          refine T_iadd (pc := 594) dL_law_594 ?_
                          refine T_sld (pc := 595) rfl dL_law_595 (fun x60 => ?_)
                          refine T_aload_n (pc := 596) 0 dL_law_596 rfl rfl ?_
                          refine T_iload (pc := 597) 4 dL_law_597 rfl ?_
                          refine T_iconst (pc := 599) (v := 2) dL_law_599 (by decide) ?_
                          refine T_iadd (pc := 600) dL_law_600 ?_
                          refine T_sld (pc := 601) rfl dL_law_601 (fun x61 => ?_)
                          refine T_callSi (pc := 602) (rest := []) (Rn_V (pc := 602) (as := [.int x60, .int x61]) (rest := []) (ctX11_kinds σ x60 x61) rfl rfl mv_X11_kinds hw903 rfl ⟨Nat.le_of_ble_eq_true rfl, Nat.le_of_ble_eq_true rfl⟩ (Nat.le_of_ble_eq_true rfl) dL_law_602 rfl) rfl (fun r62 => ?_)
                          refine T_aload_n (pc := 605) 2 dL_law_605 rfl rfl ?_
                          refine T_aload_n (pc := 606) 0 dL_law_606 rfl rfl ?_
                          refine T_iload (pc := 607) 4 dL_law_607 rfl ?_
                          refine T_iconst (pc := 609) (v := 1) dL_law_609 (by decide) ?_
                          refine T_iadd (pc := 610) dL_law_610 ?_
                          refine T_sld (pc := 611) rfl dL_law_611 (fun x63 => ?_)
                          refine T_aload_n (pc := 612) 0 dL_law_612 rfl rfl ?_
                          refine T_iload (pc := 613) 4 dL_law_613 rfl ?_
                          refine T_iconst (pc := 615) (v := 2) dL_law_615 (by decide) ?_
                          refine T_iadd (pc := 616) dL_law_616 ?_
                          refine T_sld (pc := 617) rfl dL_law_617 (fun x64 => ?_)
                          refine T_callSi (pc := 618) (rest := [.int r62.1]) (Rn_V (pc := 618) (as := [.int x63, .int x64]) (rest := [.int r62.1]) (ctX12_kinds r62.2 x63 x64) rfl rfl mv_X12_kinds hw1927 rfl ⟨Nat.le_of_ble_eq_true rfl, Nat.le_of_ble_eq_true rfl⟩ (Nat.le_of_ble_eq_true rfl) dL_law_618 rfl) rfl (fun r65 => ?_)
                          refine T_icmp_eq (pc := 621) 1543 dL_law_621 (by decide) (fun _ => ?_) (fun _ => ?_)
                          · exact fL_law_300_J1543_T xs n (hkb := hkb) r65.2 v4
                          · refine T_iconst (pc := 624) (v := 0) dL_law_624 (by decide) ?_
                            exact T_zreturn (pc := 625) false rfl dL_law_625 rfl rfl
                        · refine T_ite (fun h11 => ?_) (fun h11 => ?_)
                          · refine T_tabIn (pc := 40) (off := 586) 626 dL_law_40 (by rw [h11]; decide) (by rw [h11]; decide) (by rw [h11]; rfl) (by decide) ?_
                            refine T_aload_n (pc := 626) 1 dL_law_626 rfl rfl ?_
                            refine T_aload_n (pc := 627) 0 dL_law_627 rfl rfl ?_
                            refine T_iload (pc := 628) 4 dL_law_628 rfl ?_
                            refine T_iconst (pc := 630) (v := 1) dL_law_630 (by decide) ?_
                            refine T_iadd (pc := 631) dL_law_631 ?_
                            refine T_sld (pc := 632) rfl dL_law_632 (fun x66 => ?_)
                            refine T_aload_n (pc := 633) 0 dL_law_633 rfl rfl ?_
                            refine T_iload (pc := 634) 4 dL_law_634 rfl ?_
                            refine T_iconst (pc := 636) (v := 2) dL_law_636 (by decide) ?_
                            refine T_iadd (pc := 637) dL_law_637 ?_
                            refine T_sld (pc := 638) rfl dL_law_638 (fun x67 => ?_)
                            refine T_callSi (pc := 639) (rest := []) (Rn_V (pc := 639) (as := [.int x66, .int x67]) (rest := []) (ctX11_nearest σ x66 x67) rfl rfl mv_X11_nearest hw912 rfl ⟨Nat.le_of_ble_eq_true rfl, Nat.le_of_ble_eq_true rfl⟩ (Nat.le_of_ble_eq_true rfl) dL_law_639 rfl) rfl (fun r68 => ?_)
                            refine T_aload_n (pc := 642) 2 dL_law_642 rfl rfl ?_
                            refine T_aload_n (pc := 643) 0 dL_law_643 rfl rfl ?_
                            refine T_iload (pc := 644) 4 dL_law_644 rfl ?_
                            refine T_iconst (pc := 646) (v := 1) dL_law_646 (by decide) ?_
                            refine T_iadd (pc := 647) dL_law_647 ?_
                            refine T_sld (pc := 648) rfl dL_law_648 (fun x69 => ?_)
                            refine T_aload_n (pc := 649) 0 dL_law_649 rfl rfl ?_
                            refine T_iload (pc := 650) 4 dL_law_650 rfl ?_
                            refine T_iconst (pc := 652) (v := 2) dL_law_652 (by decide) ?_
                            refine T_iadd (pc := 653) dL_law_653 ?_
                            refine T_sld (pc := 654) rfl dL_law_654 (fun x70 => ?_)
                            refine T_callSi (pc := 655) (rest := [.int r68.1]) (Rn_V (pc := 655) (as := [.int x69, .int x70]) (rest := [.int r68.1]) (ctX12_nearest r68.2 x69 x70) rfl rfl mv_X12_nearest hw1931 rfl ⟨Nat.le_of_ble_eq_true rfl, Nat.le_of_ble_eq_true rfl⟩ (Nat.le_of_ble_eq_true rfl) dL_law_655 rfl) rfl (fun r71 => ?_)
                            refine T_icmp_eq (pc := 658) 1543 dL_law_658 (by decide) (fun _ => ?_) (fun _ => ?_)
                            · exact fL_law_300_J1543_T xs n (hkb := hkb) r71.2 v4
                            · refine T_iconst (pc := 661) (v := 0) dL_law_661 (by decide) ?_
                              exact T_zreturn (pc := 662) false rfl dL_law_662 rfl rfl
                          · refine T_ite (fun h12 => ?_) (fun h12 => ?_)
                            · refine T_tabIn (pc := 40) (off := 623) 663 dL_law_40 (by rw [h12]; decide) (by rw [h12]; decide) (by rw [h12]; rfl) (by decide) ?_
                              refine T_aload_n (pc := 663) 1 dL_law_663 rfl rfl ?_
                              refine T_aload_n (pc := 664) 0 dL_law_664 rfl rfl ?_
                              refine T_iload (pc := 665) 4 dL_law_665 rfl ?_
                              refine T_iconst (pc := 667) (v := 1) dL_law_667 (by decide) ?_
                              refine T_iadd (pc := 668) dL_law_668 ?_
                              refine T_sld (pc := 669) rfl dL_law_669 (fun x72 => ?_)
                              refine T_callSi (pc := 670) (rest := []) (Rn_V (pc := 670) (as := [.int x72]) (rest := []) (ctX11_least σ x72) rfl rfl mv_X11_least hw920 rfl ⟨Nat.le_of_ble_eq_true rfl, Nat.le_of_ble_eq_true rfl⟩ (Nat.le_of_ble_eq_true rfl) dL_law_670 rfl) rfl (fun r73 => ?_)
                              refine T_aload_n (pc := 673) 2 dL_law_673 rfl rfl ?_
                              refine T_aload_n (pc := 674) 0 dL_law_674 rfl rfl ?_
                              refine T_iload (pc := 675) 4 dL_law_675 rfl ?_
                              refine T_iconst (pc := 677) (v := 1) dL_law_677 (by decide) ?_
                              refine T_iadd (pc := 678) dL_law_678 ?_
                              refine T_sld (pc := 679) rfl dL_law_679 (fun x74 => ?_)
                              refine T_callSi (pc := 680) (rest := [.int r73.1]) (Rn_V (pc := 680) (as := [.int x74]) (rest := [.int r73.1]) (ctX12_least r73.2 x74) rfl rfl mv_X12_least hw1935 rfl ⟨Nat.le_of_ble_eq_true rfl, Nat.le_of_ble_eq_true rfl⟩ (Nat.le_of_ble_eq_true rfl) dL_law_680 rfl) rfl (fun r75 => ?_)
                              refine T_icmp_eq (pc := 683) 1543 dL_law_683 (by decide) (fun _ => ?_) (fun _ => ?_)
                              · exact fL_law_300_J1543_T xs n (hkb := hkb) r75.2 v4
                              · refine T_iconst (pc := 686) (v := 0) dL_law_686 (by decide) ?_
                                exact T_zreturn (pc := 687) false rfl dL_law_687 rfl rfl
                            · refine T_ite (fun h13 => ?_) (fun h13 => ?_)
                              · refine T_tabIn (pc := 40) (off := 648) 688 dL_law_40 (by rw [h13]; decide) (by rw [h13]; decide) (by rw [h13]; rfl) (by decide) ?_
                                refine T_aload_n (pc := 688) 1 dL_law_688 rfl rfl ?_
                                refine T_aload_n (pc := 689) 0 dL_law_689 rfl rfl ?_
                                refine T_iload (pc := 690) 4 dL_law_690 rfl ?_
                                refine T_iconst (pc := 692) (v := 1) dL_law_692 (by decide) ?_
                                refine T_iadd (pc := 693) dL_law_693 ?_
                                refine T_sld (pc := 694) rfl dL_law_694 (fun x76 => ?_)
                                refine T_callSl (pc := 695) (rest := []) (Rn_V (pc := 695) (as := [.int x76]) (rest := []) (ctX11_orders σ x76) rfl rfl mv_X11_orders hw1000 rfl ⟨Nat.le_of_ble_eq_true rfl, Nat.le_of_ble_eq_true rfl⟩ (Nat.le_of_ble_eq_true rfl) dL_law_695 rfl) rfl (fun r77 => ?_)
                                refine T_aload_n (pc := 698) 2 dL_law_698 rfl rfl ?_
                                refine T_aload_n (pc := 699) 0 dL_law_699 rfl rfl ?_
                                refine T_iload (pc := 700) 4 dL_law_700 rfl ?_
                                refine T_iconst (pc := 702) (v := 1) dL_law_702 (by decide) ?_
                                refine T_iadd (pc := 703) dL_law_703 ?_
                                refine T_sld (pc := 704) rfl dL_law_704 (fun x78 => ?_)
                                refine T_callSl (pc := 705) (rest := [.long r77.1]) (Rn_V (pc := 705) (as := [.int x78]) (rest := [.long r77.1]) (ctX12_orders r77.2 x78) rfl rfl mv_X12_orders hw1963 rfl ⟨Nat.le_of_ble_eq_true rfl, Nat.le_of_ble_eq_true rfl⟩ (Nat.le_of_ble_eq_true rfl) dL_law_705 rfl) rfl (fun r79 => ?_)
                                refine T_lcmp (pc := 708) dL_law_708 ?_
                                refine T_if_eq (pc := 709) 1543 dL_law_709 (by decide) (fun _ => ?_) (fun _ => ?_)
                                · exact fL_law_300_J1543_T xs n (hkb := hkb) r79.2 v4
                                · refine T_iconst (pc := 712) (v := 0) dL_law_712 (by decide) ?_
                                  exact T_zreturn (pc := 713) false rfl dL_law_713 rfl rfl
                              · refine T_ite (fun h14 => ?_) (fun h14 => ?_)
                                · refine T_tabIn (pc := 40) (off := 674) 714 dL_law_40 (by rw [h14]; decide) (by rw [h14]; decide) (by rw [h14]; rfl) (by decide) ?_
                                  refine T_aload_n (pc := 714) 1 dL_law_714 rfl rfl ?_
                                  refine T_aload_n (pc := 715) 0 dL_law_715 rfl rfl ?_
                                  refine T_iload (pc := 716) 4 dL_law_716 rfl ?_
                                  refine T_iconst (pc := 718) (v := 1) dL_law_718 (by decide) ?_
                                  refine T_iadd (pc := 719) dL_law_719 ?_
                                  refine T_sld (pc := 720) rfl dL_law_720 (fun x80 => ?_)
                                  refine T_aload_n (pc := 721) 0 dL_law_721 rfl rfl ?_
                                  refine T_iload (pc := 722) 4 dL_law_722 rfl ?_
                                  refine T_iconst (pc := 724) (v := 2) dL_law_724 (by decide) ?_
                                  refine T_iadd (pc := 725) dL_law_725 ?_
                                  refine T_sld (pc := 726) rfl dL_law_726 (fun x81 => ?_)
                                  refine T_callSi (pc := 727) (rest := []) (Rn_V (pc := 727) (as := [.int x80, .int x81]) (rest := []) (ctX11_first σ x80 x81) rfl rfl mv_X11_first hw1009 rfl ⟨Nat.le_of_ble_eq_true rfl, Nat.le_of_ble_eq_true rfl⟩ (Nat.le_of_ble_eq_true rfl) dL_law_727 rfl) rfl (fun r82 => ?_)
                                  refine T_aload_n (pc := 730) 2 dL_law_730 rfl rfl ?_
                                  refine T_aload_n (pc := 731) 0 dL_law_731 rfl rfl ?_
                                  refine T_iload (pc := 732) 4 dL_law_732 rfl ?_
                                  refine T_iconst (pc := 734) (v := 1) dL_law_734 (by decide) ?_
                                  refine T_iadd (pc := 735) dL_law_735 ?_
                                  refine T_sld (pc := 736) rfl dL_law_736 (fun x83 => ?_)
                                  refine T_aload_n (pc := 737) 0 dL_law_737 rfl rfl ?_
                                  refine T_iload (pc := 738) 4 dL_law_738 rfl ?_
                                  refine T_iconst (pc := 740) (v := 2) dL_law_740 (by decide) ?_
                                  refine T_iadd (pc := 741) dL_law_741 ?_
                                  refine T_sld (pc := 742) rfl dL_law_742 (fun x84 => ?_)
                                  refine T_callSi (pc := 743) (rest := [.int r82.1]) (Rn_V (pc := 743) (as := [.int x83, .int x84]) (rest := [.int r82.1]) (ctX12_first r82.2 x83 x84) rfl rfl mv_X12_first hw1968 rfl ⟨Nat.le_of_ble_eq_true rfl, Nat.le_of_ble_eq_true rfl⟩ (Nat.le_of_ble_eq_true rfl) dL_law_743 rfl) rfl (fun r85 => ?_)
                                  refine T_icmp_eq (pc := 746) 1543 dL_law_746 (by decide) (fun _ => ?_) (fun _ => ?_)
                                  · exact fL_law_300_J1543_T xs n (hkb := hkb) r85.2 v4
                                  · refine T_iconst (pc := 749) (v := 0) dL_law_749 (by decide) ?_
                                    exact T_zreturn (pc := 750) false rfl dL_law_750 rfl rfl
                                · refine T_ite (fun h15 => ?_) (fun h15 => ?_)
                                  · refine T_tabIn (pc := 40) (off := 711) 751 dL_law_40 (by rw [h15]; decide) (by rw [h15]; decide) (by rw [h15]; rfl) (by decide) ?_
                                    refine T_aload_n (pc := 751) 1 dL_law_751 rfl rfl ?_
                                    refine T_aload_n (pc := 752) 0 dL_law_752 rfl rfl ?_
                                    refine T_iload (pc := 753) 4 dL_law_753 rfl ?_
                                    refine T_iconst (pc := 755) (v := 1) dL_law_755 (by decide) ?_
                                    refine T_iadd (pc := 756) dL_law_756 ?_
                                    refine T_sld (pc := 757) rfl dL_law_757 (fun x86 => ?_)
                                    refine T_aload_n (pc := 758) 0 dL_law_758 rfl rfl ?_
                                    refine T_iload (pc := 759) 4 dL_law_759 rfl ?_
                                    refine T_iconst (pc := 761) (v := 2) dL_law_761 (by decide) ?_
                                    refine T_iadd (pc := 762) dL_law_762 ?_
                                    refine T_sld (pc := 763) rfl dL_law_763 (fun x87 => ?_)
                                    refine T_aload_n (pc := 764) 0 dL_law_764 rfl rfl ?_
                                    refine T_iload (pc := 765) 4 dL_law_765 rfl ?_
                                    refine T_iconst (pc := 767) (v := 3) dL_law_767 (by decide) ?_
                                    refine T_iadd (pc := 768) dL_law_768 ?_
                                    refine T_sld (pc := 769) rfl dL_law_769 (fun x88 => ?_)
                                    refine T_callSi (pc := 770) (rest := []) (Rn_V (pc := 770) (as := [.int x86, .int x87, .int x88]) (rest := []) (ctX11_sure σ x86 x87 x88) rfl rfl mv_X11_sure hw1029 rfl ⟨Nat.le_of_ble_eq_true rfl, Nat.le_of_ble_eq_true rfl⟩ (Nat.le_of_ble_eq_true rfl) dL_law_770 rfl) rfl (fun r89 => ?_)
                                    refine T_aload_n (pc := 773) 2 dL_law_773 rfl rfl ?_
                                    refine T_aload_n (pc := 774) 0 dL_law_774 rfl rfl ?_
                                    refine T_iload (pc := 775) 4 dL_law_775 rfl ?_
                                    refine T_iconst (pc := 777) (v := 1) dL_law_777 (by decide) ?_
                                    refine T_iadd (pc := 778) dL_law_778 ?_
                                    refine T_sld (pc := 779) rfl dL_law_779 (fun x90 => ?_)
                                    refine T_aload_n (pc := 780) 0 dL_law_780 rfl rfl ?_
                                    refine T_iload (pc := 781) 4 dL_law_781 rfl ?_
                                    refine T_iconst (pc := 783) (v := 2) dL_law_783 (by decide) ?_
                                    refine T_iadd (pc := 784) dL_law_784 ?_
                                    refine T_sld (pc := 785) rfl dL_law_785 (fun x91 => ?_)
                                    refine T_aload_n (pc := 786) 0 dL_law_786 rfl rfl ?_
                                    refine T_iload (pc := 787) 4 dL_law_787 rfl ?_
                                    refine T_iconst (pc := 789) (v := 3) dL_law_789 (by decide) ?_
                                    refine T_iadd (pc := 790) dL_law_790 ?_
                                    refine T_sld (pc := 791) rfl dL_law_791 (fun x92 => ?_)
                                    refine T_callSi (pc := 792) (rest := [.int r89.1]) (Rn_V (pc := 792) (as := [.int x90, .int x91, .int x92]) (rest := [.int r89.1]) (ctX12_sure r89.2 x90 x91 x92) rfl rfl mv_X12_sure hw1972 rfl ⟨Nat.le_of_ble_eq_true rfl, Nat.le_of_ble_eq_true rfl⟩ (Nat.le_of_ble_eq_true rfl) dL_law_792 rfl) rfl (fun r93 => ?_)
                                    refine T_icmp_eq (pc := 795) 1543 dL_law_795 (by decide) (fun _ => ?_) (fun _ => ?_)
                                    · exact fL_law_300_J1543_T xs n (hkb := hkb) r93.2 v4
                                    · refine T_iconst (pc := 798) (v := 0) dL_law_798 (by decide) ?_
                                      exact T_zreturn (pc := 799) false rfl dL_law_799 rfl rfl
                                  · refine T_ite (fun h16 => ?_) (fun h16 => ?_)
                                    · refine T_tabIn (pc := 40) (off := 760) 800 dL_law_40 (by rw [h16]; decide) (by rw [h16]; decide) (by rw [h16]; rfl) (by decide) ?_
                                      refine T_aload_n (pc := 800) 1 dL_law_800 rfl rfl ?_
                                      refine T_aload_n (pc := 801) 0 dL_law_801 rfl rfl ?_
                                      refine T_iload (pc := 802) 4 dL_law_802 rfl ?_
                                      refine T_iconst (pc := 804) (v := 1) dL_law_804 (by decide) ?_
                                      refine T_iadd (pc := 805) dL_law_805 ?_
                                      refine T_sld (pc := 806) rfl dL_law_806 (fun x94 => ?_)
                                      refine T_callSi (pc := 807) (rest := []) (Rn_V (pc := 807) (as := [.int x94]) (rest := []) (ctX11_length σ x94) rfl rfl mv_X11_length hw1058 rfl ⟨Nat.le_of_ble_eq_true rfl, Nat.le_of_ble_eq_true rfl⟩ (Nat.le_of_ble_eq_true rfl) dL_law_807 rfl) rfl (fun r95 => ?_)
                                      refine T_aload_n (pc := 810) 2 dL_law_810 rfl rfl ?_
                                      refine T_aload_n (pc := 811) 0 dL_law_811 rfl rfl ?_
                                      refine T_iload (pc := 812) 4 dL_law_812 rfl ?_
                                      refine T_iconst (pc := 814) (v := 1) dL_law_814 (by decide) ?_
                                      refine T_iadd (pc := 815) dL_law_815 ?_
                                      refine T_sld (pc := 816) rfl dL_law_816 (fun x96 => ?_)
                                      refine T_callSi (pc := 817) (rest := [.int r95.1]) (Rn_V (pc := 817) (as := [.int x96]) (rest := [.int r95.1]) (ctX12_length r95.2 x96) rfl rfl mv_X12_length hw1980 rfl ⟨Nat.le_of_ble_eq_true rfl, Nat.le_of_ble_eq_true rfl⟩ (Nat.le_of_ble_eq_true rfl) dL_law_817 rfl) rfl (fun r97 => ?_)
                                      refine T_icmp_eq (pc := 820) 1543 dL_law_820 (by decide) (fun _ => ?_) (fun _ => ?_)
                                      · exact fL_law_300_J1543_T xs n (hkb := hkb) r97.2 v4
                                      · refine T_iconst (pc := 823) (v := 0) dL_law_823 (by decide) ?_
                                        exact T_zreturn (pc := 824) false rfl dL_law_824 rfl rfl
                                    · refine T_ite (fun h17 => ?_) (fun h17 => ?_)
                                      · refine T_tabIn (pc := 40) (off := 785) 825 dL_law_40 (by rw [h17]; decide) (by rw [h17]; decide) (by rw [h17]; rfl) (by decide) ?_
                                        refine T_aload_n (pc := 825) 1 dL_law_825 rfl rfl ?_
                                        refine T_aload_n (pc := 826) 0 dL_law_826 rfl rfl ?_
                                        refine T_iload (pc := 827) 4 dL_law_827 rfl ?_
                                        refine T_iconst (pc := 829) (v := 1) dL_law_829 (by decide) ?_
                                        refine T_iadd (pc := 830) dL_law_830 ?_
                                        refine T_sld (pc := 831) rfl dL_law_831 (fun x98 => ?_)
                                        refine T_callSi (pc := 832) (rest := []) (Rn_V (pc := 832) (as := [.int x98]) (rest := []) (ctX11_one σ x98) rfl rfl mv_X11_one hw1074 rfl ⟨Nat.le_of_ble_eq_true rfl, Nat.le_of_ble_eq_true rfl⟩ (Nat.le_of_ble_eq_true rfl) dL_law_832 rfl) rfl (fun r99 => ?_)
                                        refine T_aload_n (pc := 835) 2 dL_law_835 rfl rfl ?_
                                        refine T_aload_n (pc := 836) 0 dL_law_836 rfl rfl ?_
                                        refine T_iload (pc := 837) 4 dL_law_837 rfl ?_
                                        refine T_iconst (pc := 839) (v := 1) dL_law_839 (by decide) ?_
                                        refine T_iadd (pc := 840) dL_law_840 ?_
                                        refine T_sld (pc := 841) rfl dL_law_841 (fun x100 => ?_)
                                        refine T_callSi (pc := 842) (rest := [.int r99.1]) (Rn_V (pc := 842) (as := [.int x100]) (rest := [.int r99.1]) (ctX12_one r99.2 x100) rfl rfl mv_X12_one hw1988 rfl ⟨Nat.le_of_ble_eq_true rfl, Nat.le_of_ble_eq_true rfl⟩ (Nat.le_of_ble_eq_true rfl) dL_law_842 rfl) rfl (fun r101 => ?_)
                                        refine T_icmp_eq (pc := 845) 1543 dL_law_845 (by decide) (fun _ => ?_) (fun _ => ?_)
                                        · exact fL_law_300_J1543_T xs n (hkb := hkb) r101.2 v4
                                        · refine T_iconst (pc := 848) (v := 0) dL_law_848 (by decide) ?_
                                          exact T_zreturn (pc := 849) false rfl dL_law_849 rfl rfl
                                      · refine T_ite (fun h18 => ?_) (fun h18 => ?_)
                                        · refine T_tabIn (pc := 40) (off := 810) 850 dL_law_40 (by rw [h18]; decide) (by rw [h18]; decide) (by rw [h18]; rfl) (by decide) ?_
                                          refine T_aload_n (pc := 850) 1 dL_law_850 rfl rfl ?_
                                          refine T_aload_n (pc := 851) 0 dL_law_851 rfl rfl ?_
                                          refine T_iload (pc := 852) 4 dL_law_852 rfl ?_
                                          refine T_iconst (pc := 854) (v := 1) dL_law_854 (by decide) ?_
                                          refine T_iadd (pc := 855) dL_law_855 ?_
                                          refine T_sld (pc := 856) rfl dL_law_856 (fun x102 => ?_)
                                          refine T_aload_n (pc := 857) 0 dL_law_857 rfl rfl ?_
                                          refine T_iload (pc := 858) 4 dL_law_858 rfl ?_
                                          refine T_iconst (pc := 860) (v := 2) dL_law_860 (by decide) ?_
                                          refine T_iadd (pc := 861) dL_law_861 ?_
                                          refine T_sld (pc := 862) rfl dL_law_862 (fun x103 => ?_)
                                          refine T_callPi (pc := 863) (rest := []) (Rn_V (pc := 863) (as := [.int x102, .int x103]) (rest := []) (ctX11_settles σ x102 x103) rfl rfl mv_X11_settles hw1095 rfl ⟨Nat.le_of_ble_eq_true rfl, Nat.le_of_ble_eq_true rfl⟩ (Nat.le_of_ble_eq_true rfl) dL_law_863 rfl) rfl (fun x104 => ?_)
                                          refine T_aload_n (pc := 866) 2 dL_law_866 rfl rfl ?_
                                          refine T_aload_n (pc := 867) 0 dL_law_867 rfl rfl ?_
                                          refine T_iload (pc := 868) 4 dL_law_868 rfl ?_
                                          refine T_iconst (pc := 870) (v := 1) dL_law_870 (by decide) ?_
                                          refine T_iadd (pc := 871) dL_law_871 ?_
                                          refine T_sld (pc := 872) rfl dL_law_872 (fun x105 => ?_)
                                          refine T_aload_n (pc := 873) 0 dL_law_873 rfl rfl ?_
                                          refine T_iload (pc := 874) 4 dL_law_874 rfl ?_
                                          refine T_iconst (pc := 876) (v := 2) dL_law_876 (by decide) ?_
                                          refine T_iadd (pc := 877) dL_law_877 ?_
                                          refine T_sld (pc := 878) rfl dL_law_878 (fun x106 => ?_)
                                          refine T_callSi (pc := 879) (rest := [.int x104]) (Rn_V (pc := 879) (as := [.int x105, .int x106]) (rest := [.int x104]) (ctX12_settles σ x105 x106) rfl rfl mv_X12_settles hw1992 rfl ⟨Nat.le_of_ble_eq_true rfl, Nat.le_of_ble_eq_true rfl⟩ (Nat.le_of_ble_eq_true rfl) dL_law_879 rfl) rfl (fun r107 => ?_)
                                          refine T_icmp_eq (pc := 882) 1543 dL_law_882 (by decide) (fun _ => ?_) (fun _ => ?_)
                                          · exact fL_law_300_J1543_T xs n (hkb := hkb) r107.2 v4
                                          · refine T_iconst (pc := 885) (v := 0) dL_law_885 (by decide) ?_
                                            exact T_zreturn (pc := 886) false rfl dL_law_886 rfl rfl
                                        · refine T_ite (fun h19 => ?_) (fun h19 => ?_)
                                          · refine T_tabIn (pc := 40) (off := 847) 887 dL_law_40 (by rw [h19]; decide) (by rw [h19]; decide) (by rw [h19]; rfl) (by decide) ?_
                                            refine T_aload_n (pc := 887) 1 dL_law_887 rfl rfl ?_
                                            refine T_aload_n (pc := 888) 0 dL_law_888 rfl rfl ?_
                                            refine T_iload (pc := 889) 4 dL_law_889 rfl ?_
                                            refine T_iconst (pc := 891) (v := 1) dL_law_891 (by decide) ?_
                                            refine T_iadd (pc := 892) dL_law_892 ?_
                                            refine T_sld (pc := 893) rfl dL_law_893 (fun x108 => ?_)
                                            refine T_callPi (pc := 894) (rest := []) (Rn_V (pc := 894) (as := [.int x108]) (rest := []) (ctX11_next σ x108) rfl rfl mv_X11_next hw1109 rfl ⟨Nat.le_of_ble_eq_true rfl, Nat.le_of_ble_eq_true rfl⟩ (Nat.le_of_ble_eq_true rfl) dL_law_894 rfl) rfl (fun x109 => ?_)
                                            refine T_aload_n (pc := 897) 2 dL_law_897 rfl rfl ?_
                                            refine T_aload_n (pc := 898) 0 dL_law_898 rfl rfl ?_
                                            refine T_iload (pc := 899) 4 dL_law_899 rfl ?_
                                            refine T_iconst (pc := 901) (v := 1) dL_law_901 (by decide) ?_
                                            refine T_iadd (pc := 902) dL_law_902 ?_
                                            refine T_sld (pc := 903) rfl dL_law_903 (fun x110 => ?_)
                                            refine T_callSi (pc := 904) (rest := [.int x109]) (Rn_V (pc := 904) (as := [.int x110]) (rest := [.int x109]) (ctX12_next σ x110) rfl rfl mv_X12_next hw2000 rfl ⟨Nat.le_of_ble_eq_true rfl, Nat.le_of_ble_eq_true rfl⟩ (Nat.le_of_ble_eq_true rfl) dL_law_904 rfl) rfl (fun r111 => ?_)
                                            refine T_icmp_eq (pc := 907) 1543 dL_law_907 (by decide) (fun _ => ?_) (fun _ => ?_)
                                            · exact fL_law_300_J1543_T xs n (hkb := hkb) r111.2 v4
                                            · refine T_iconst (pc := 910) (v := 0) dL_law_910 (by decide) ?_
                                              exact T_zreturn (pc := 911) false rfl dL_law_911 rfl rfl
                                          · refine T_ite (fun h20 => ?_) (fun h20 => ?_)
                                            · refine T_tabIn (pc := 40) (off := 872) 912 dL_law_40 (by rw [h20]; decide) (by rw [h20]; decide) (by rw [h20]; rfl) (by decide) ?_
                                              refine T_aload_n (pc := 912) 1 dL_law_912 rfl rfl ?_
                                              refine T_aload_n (pc := 913) 0 dL_law_913 rfl rfl ?_
                                              refine T_iload (pc := 914) 4 dL_law_914 rfl ?_
                                              refine T_iconst (pc := 916) (v := 1) dL_law_916 (by decide) ?_
                                              refine T_iadd (pc := 917) dL_law_917 ?_
                                              refine T_sld (pc := 918) rfl dL_law_918 (fun x112 => ?_)
                                              refine T_callSi (pc := 919) (rest := []) (Rn_V (pc := 919) (as := [.int x112]) (rest := []) (ctX11_act σ x112) rfl rfl mv_X11_act hw1118 rfl ⟨Nat.le_of_ble_eq_true rfl, Nat.le_of_ble_eq_true rfl⟩ (Nat.le_of_ble_eq_true rfl) dL_law_919 rfl) rfl (fun r113 => ?_)
                                              refine T_aload_n (pc := 922) 2 dL_law_922 rfl rfl ?_
                                              refine T_aload_n (pc := 923) 0 dL_law_923 rfl rfl ?_
                                              refine T_iload (pc := 924) 4 dL_law_924 rfl ?_
                                              refine T_iconst (pc := 926) (v := 1) dL_law_926 (by decide) ?_
                                              refine T_iadd (pc := 927) dL_law_927 ?_
                                              refine T_sld (pc := 928) rfl dL_law_928 (fun x114 => ?_)
                                              refine T_callSi (pc := 929) (rest := [.int r113.1]) (Rn_V (pc := 929) (as := [.int x114]) (rest := [.int r113.1]) (ctX12_act r113.2 x114) rfl rfl mv_X12_act hw2004 rfl ⟨Nat.le_of_ble_eq_true rfl, Nat.le_of_ble_eq_true rfl⟩ (Nat.le_of_ble_eq_true rfl) dL_law_929 rfl) rfl (fun r115 => ?_)
                                              refine T_icmp_eq (pc := 932) 1543 dL_law_932 (by decide) (fun _ => ?_) (fun _ => ?_)
                                              · exact fL_law_300_J1543_T xs n (hkb := hkb) r115.2 v4
                                              · refine T_iconst (pc := 935) (v := 0) dL_law_935 (by decide) ?_
                                                exact T_zreturn (pc := 936) false rfl dL_law_936 rfl rfl
                                            · refine T_ite (fun h21 => ?_) (fun h21 => ?_)
                                              · refine T_tabIn (pc := 40) (off := 897) 937 dL_law_40 (by rw [h21]; decide) (by rw [h21]; decide) (by rw [h21]; rfl) (by decide) ?_
                                                refine T_aload_n (pc := 937) 1 dL_law_937 rfl rfl ?_
                                                refine T_aload_n (pc := 938) 0 dL_law_938 rfl rfl ?_
                                                refine T_iload (pc := 939) 4 dL_law_939 rfl ?_
                                                refine T_iconst (pc := 941) (v := 1) dL_law_941 (by decide) ?_
                                                refine T_iadd (pc := 942) dL_law_942 ?_
                                                refine T_sld (pc := 943) rfl dL_law_943 (fun x116 => ?_)
                                                refine T_callPi (pc := 944) (rest := []) (Rn_V (pc := 944) (as := [.int x116]) (rest := []) (ctX11_play σ x116) rfl rfl mv_X11_play hw1132 rfl ⟨Nat.le_of_ble_eq_true rfl, Nat.le_of_ble_eq_true rfl⟩ (Nat.le_of_ble_eq_true rfl) dL_law_944 rfl) rfl (fun x117 => ?_)
                                                refine T_aload_n (pc := 947) 2 dL_law_947 rfl rfl ?_
                                                refine T_aload_n (pc := 948) 0 dL_law_948 rfl rfl ?_
                                                refine T_iload (pc := 949) 4 dL_law_949 rfl ?_
                                                refine T_iconst (pc := 951) (v := 1) dL_law_951 (by decide) ?_
                                                refine T_iadd (pc := 952) dL_law_952 ?_
                                                refine T_sld (pc := 953) rfl dL_law_953 (fun x118 => ?_)
                                                refine T_callSi (pc := 954) (rest := [.int x117]) (Rn_V (pc := 954) (as := [.int x118]) (rest := [.int x117]) (ctX12_play σ x118) rfl rfl mv_X12_play hw2008 rfl ⟨Nat.le_of_ble_eq_true rfl, Nat.le_of_ble_eq_true rfl⟩ (Nat.le_of_ble_eq_true rfl) dL_law_954 rfl) rfl (fun r119 => ?_)
                                                refine T_icmp_eq (pc := 957) 1543 dL_law_957 (by decide) (fun _ => ?_) (fun _ => ?_)
                                                · exact fL_law_300_J1543_T xs n (hkb := hkb) r119.2 v4
                                                · refine T_iconst (pc := 960) (v := 0) dL_law_960 (by decide) ?_
                                                  exact T_zreturn (pc := 961) false rfl dL_law_961 rfl rfl
                                              · refine T_ite (fun h22 => ?_) (fun h22 => ?_)
                                                · refine T_tabIn (pc := 40) (off := 922) 962 dL_law_40 (by rw [h22]; decide) (by rw [h22]; decide) (by rw [h22]; rfl) (by decide) ?_
                                                  refine T_aload_n (pc := 962) 1 dL_law_962 rfl rfl ?_
                                                  refine T_aload_n (pc := 963) 0 dL_law_963 rfl rfl ?_
                                                  refine T_iload (pc := 964) 4 dL_law_964 rfl ?_
                                                  refine T_iconst (pc := 966) (v := 1) dL_law_966 (by decide) ?_
                                                  refine T_iadd (pc := 967) dL_law_967 ?_
                                                  refine T_sld (pc := 968) rfl dL_law_968 (fun x120 => ?_)
                                                  refine T_callPi (pc := 969) (rest := []) (Rn_V (pc := 969) (as := [.int x120]) (rest := []) (ctX11_wrong σ x120) rfl rfl mv_X11_wrong hw1141 rfl ⟨Nat.le_of_ble_eq_true rfl, Nat.le_of_ble_eq_true rfl⟩ (Nat.le_of_ble_eq_true rfl) dL_law_969 rfl) rfl (fun x121 => ?_)
                                                  refine T_aload_n (pc := 972) 2 dL_law_972 rfl rfl ?_
                                                  refine T_aload_n (pc := 973) 0 dL_law_973 rfl rfl ?_
                                                  refine T_iload (pc := 974) 4 dL_law_974 rfl ?_
                                                  refine T_iconst (pc := 976) (v := 1) dL_law_976 (by decide) ?_
                                                  refine T_iadd (pc := 977) dL_law_977 ?_
                                                  refine T_sld (pc := 978) rfl dL_law_978 (fun x122 => ?_)
                                                  refine T_callSi (pc := 979) (rest := [.int x121]) (Rn_V (pc := 979) (as := [.int x122]) (rest := [.int x121]) (ctX12_wrong σ x122) rfl rfl mv_X12_wrong hw2012 rfl ⟨Nat.le_of_ble_eq_true rfl, Nat.le_of_ble_eq_true rfl⟩ (Nat.le_of_ble_eq_true rfl) dL_law_979 rfl) rfl (fun r123 => ?_)
                                                  refine T_icmp_eq (pc := 982) 1543 dL_law_982 (by decide) (fun _ => ?_) (fun _ => ?_)
                                                  · exact fL_law_300_J1543_T xs n (hkb := hkb) r123.2 v4
                                                  · refine T_iconst (pc := 985) (v := 0) dL_law_985 (by decide) ?_
                                                    exact T_zreturn (pc := 986) false rfl dL_law_986 rfl rfl
                                                · refine T_ite (fun h23 => ?_) (fun h23 => ?_)
                                                  · refine T_tabIn (pc := 40) (off := 947) 987 dL_law_40 (by rw [h23]; decide) (by rw [h23]; decide) (by rw [h23]; rfl) (by decide) ?_
                                                    refine T_aload_n (pc := 987) 1 dL_law_987 rfl rfl ?_
                                                    refine T_aload_n (pc := 988) 0 dL_law_988 rfl rfl ?_
                                                    refine T_iload (pc := 989) 4 dL_law_989 rfl ?_
                                                    refine T_iconst (pc := 991) (v := 1) dL_law_991 (by decide) ?_
                                                    refine T_iadd (pc := 992) dL_law_992 ?_
                                                    refine T_sld (pc := 993) rfl dL_law_993 (fun x124 => ?_)
                                                    refine T_aload_n (pc := 994) 0 dL_law_994 rfl rfl ?_
                                                    refine T_iload (pc := 995) 4 dL_law_995 rfl ?_
                                                    refine T_iconst (pc := 997) (v := 2) dL_law_997 (by decide) ?_
                                                    refine T_iadd (pc := 998) dL_law_998 ?_
                                                    refine T_sld (pc := 999) rfl dL_law_999 (fun x125 => ?_)
                                                    refine T_callSi (pc := 1000) (rest := []) (Rn_V (pc := 1000) (as := [.int x124, .int x125]) (rest := []) (ctX11_rehearse σ x124 x125) rfl rfl mv_X11_rehearse hw1155 rfl ⟨Nat.le_of_ble_eq_true rfl, Nat.le_of_ble_eq_true rfl⟩ (Nat.le_of_ble_eq_true rfl) dL_law_1000 rfl) rfl (fun r126 => ?_)
                                                    refine T_aload_n (pc := 1003) 2 dL_law_1003 rfl rfl ?_
                                                    refine T_aload_n (pc := 1004) 0 dL_law_1004 rfl rfl ?_
                                                    refine T_iload (pc := 1005) 4 dL_law_1005 rfl ?_
                                                    refine T_iconst (pc := 1007) (v := 1) dL_law_1007 (by decide) ?_
                                                    refine T_iadd (pc := 1008) dL_law_1008 ?_
                                                    refine T_sld (pc := 1009) rfl dL_law_1009 (fun x127 => ?_)
                                                    refine T_aload_n (pc := 1010) 0 dL_law_1010 rfl rfl ?_
                                                    refine T_iload (pc := 1011) 4 dL_law_1011 rfl ?_
                                                    refine T_iconst (pc := 1013) (v := 2) dL_law_1013 (by decide) ?_
                                                    refine T_iadd (pc := 1014) dL_law_1014 ?_
                                                    refine T_sld (pc := 1015) rfl dL_law_1015 (fun x128 => ?_)
                                                    refine T_callSi (pc := 1016) (rest := [.int r126.1]) (Rn_V (pc := 1016) (as := [.int x127, .int x128]) (rest := [.int r126.1]) (ctX12_rehearse r126.2 x127 x128) rfl rfl mv_X12_rehearse hw2020 rfl ⟨Nat.le_of_ble_eq_true rfl, Nat.le_of_ble_eq_true rfl⟩ (Nat.le_of_ble_eq_true rfl) dL_law_1016 rfl) rfl (fun r129 => ?_)
                                                    refine T_icmp_eq (pc := 1019) 1543 dL_law_1019 (by decide) (fun _ => ?_) (fun _ => ?_)
                                                    · exact fL_law_300_J1543_T xs n (hkb := hkb) r129.2 v4
                                                    · refine T_iconst (pc := 1022) (v := 0) dL_law_1022 (by decide) ?_
                                                      exact T_zreturn (pc := 1023) false rfl dL_law_1023 rfl rfl
                                                  · refine T_ite (fun h24 => ?_) (fun h24 => ?_)
                                                    · refine T_tabIn (pc := 40) (off := 984) 1024 dL_law_40 (by rw [h24]; decide) (by rw [h24]; decide) (by rw [h24]; rfl) (by decide) ?_
                                                      refine T_aload_n (pc := 1024) 1 dL_law_1024 rfl rfl ?_
                                                      refine T_aload_n (pc := 1025) 0 dL_law_1025 rfl rfl ?_
                                                      refine T_iload (pc := 1026) 4 dL_law_1026 rfl ?_
                                                      refine T_iconst (pc := 1028) (v := 1) dL_law_1028 (by decide) ?_
                                                      refine T_iadd (pc := 1029) dL_law_1029 ?_
                                                      refine T_sld (pc := 1030) rfl dL_law_1030 (fun x130 => ?_)
                                                      refine T_callSi (pc := 1031) (rest := []) (Rn_V (pc := 1031) (as := [.int x130]) (rest := []) (ctX11_soon σ x130) rfl rfl mv_X11_soon hw1179 rfl ⟨Nat.le_of_ble_eq_true rfl, Nat.le_of_ble_eq_true rfl⟩ (Nat.le_of_ble_eq_true rfl) dL_law_1031 rfl) rfl (fun r131 => ?_)
                                                      refine T_aload_n (pc := 1034) 2 dL_law_1034 rfl rfl ?_
                                                      refine T_aload_n (pc := 1035) 0 dL_law_1035 rfl rfl ?_
                                                      refine T_iload (pc := 1036) 4 dL_law_1036 rfl ?_
                                                      refine T_iconst (pc := 1038) (v := 1) dL_law_1038 (by decide) ?_
                                                      refine T_iadd (pc := 1039) dL_law_1039 ?_
                                                      refine T_sld (pc := 1040) rfl dL_law_1040 (fun x132 => ?_)
                                                      refine T_callSi (pc := 1041) (rest := [.int r131.1]) (Rn_V (pc := 1041) (as := [.int x132]) (rest := [.int r131.1]) (ctX12_soon r131.2 x132) rfl rfl mv_X12_soon hw2032 rfl ⟨Nat.le_of_ble_eq_true rfl, Nat.le_of_ble_eq_true rfl⟩ (Nat.le_of_ble_eq_true rfl) dL_law_1041 rfl) rfl (fun r133 => ?_)
                                                      refine T_icmp_eq (pc := 1044) 1543 dL_law_1044 (by decide) (fun _ => ?_) (fun _ => ?_)
                                                      · exact fL_law_300_J1543_T xs n (hkb := hkb) r133.2 v4
                                                      · refine T_iconst (pc := 1047) (v := 0) dL_law_1047 (by decide) ?_
                                                        exact T_zreturn (pc := 1048) false rfl dL_law_1048 rfl rfl
                                                    · refine T_ite (fun h25 => ?_) (fun h25 => ?_)
                                                      · refine T_tabIn (pc := 40) (off := 1009) 1049 dL_law_40 (by rw [h25]; decide) (by rw [h25]; decide) (by rw [h25]; rfl) (by decide) ?_
                                                        refine T_aload_n (pc := 1049) 1 dL_law_1049 rfl rfl ?_
                                                        refine T_aload_n (pc := 1050) 0 dL_law_1050 rfl rfl ?_
                                                        refine T_iload (pc := 1051) 4 dL_law_1051 rfl ?_
                                                        refine T_iconst (pc := 1053) (v := 1) dL_law_1053 (by decide) ?_
                                                        refine T_iadd (pc := 1054) dL_law_1054 ?_
                                                        refine T_sld (pc := 1055) rfl dL_law_1055 (fun x134 => ?_)
                                                        refine T_aload_n (pc := 1056) 0 dL_law_1056 rfl rfl ?_
                                                        refine T_iload (pc := 1057) 4 dL_law_1057 rfl ?_
                                                        refine T_iconst (pc := 1059) (v := 2) dL_law_1059 (by decide) ?_
                                                        refine T_iadd (pc := 1060) dL_law_1060 ?_
                                                        refine T_sld (pc := 1061) rfl dL_law_1061 (fun x135 => ?_)
                                                        refine T_callPi (pc := 1062) (rest := []) (Rn_V (pc := 1062) (as := [.int x134, .int x135]) (rest := []) (ctX11_inside σ x134 x135) rfl rfl mv_X11_inside hw1188 rfl ⟨Nat.le_of_ble_eq_true rfl, Nat.le_of_ble_eq_true rfl⟩ (Nat.le_of_ble_eq_true rfl) dL_law_1062 rfl) rfl (fun x136 => ?_)
                                                        refine T_aload_n (pc := 1065) 2 dL_law_1065 rfl rfl ?_
                                                        refine T_aload_n (pc := 1066) 0 dL_law_1066 rfl rfl ?_
                                                        refine T_iload (pc := 1067) 4 dL_law_1067 rfl ?_
                                                        refine T_iconst (pc := 1069) (v := 1) dL_law_1069 (by decide) ?_
                                                        refine T_iadd (pc := 1070) dL_law_1070 ?_
                                                        refine T_sld (pc := 1071) rfl dL_law_1071 (fun x137 => ?_)
                                                        refine T_aload_n (pc := 1072) 0 dL_law_1072 rfl rfl ?_
                                                        refine T_iload (pc := 1073) 4 dL_law_1073 rfl ?_
                                                        refine T_iconst (pc := 1075) (v := 2) dL_law_1075 (by decide) ?_
                                                        refine T_iadd (pc := 1076) dL_law_1076 ?_
                                                        refine T_sld (pc := 1077) rfl dL_law_1077 (fun x138 => ?_)
                                                        refine T_callSi (pc := 1078) (rest := [.int x136]) (Rn_V (pc := 1078) (as := [.int x137, .int x138]) (rest := [.int x136]) (ctX12_inside σ x137 x138) rfl rfl mv_X12_inside hw2036 rfl ⟨Nat.le_of_ble_eq_true rfl, Nat.le_of_ble_eq_true rfl⟩ (Nat.le_of_ble_eq_true rfl) dL_law_1078 rfl) rfl (fun r139 => ?_)
                                                        refine T_icmp_eq (pc := 1081) 1543 dL_law_1081 (by decide) (fun _ => ?_) (fun _ => ?_)
                                                        · exact fL_law_300_J1543_T xs n (hkb := hkb) r139.2 v4
                                                        · refine T_iconst (pc := 1084) (v := 0) dL_law_1084 (by decide) ?_
                                                          exact T_zreturn (pc := 1085) false rfl dL_law_1085 rfl rfl
                                                      · refine T_ite (fun h26 => ?_) (fun h26 => ?_)
                                                        · refine T_tabIn (pc := 40) (off := 1046) 1086 dL_law_40 (by rw [h26]; decide) (by rw [h26]; decide) (by rw [h26]; rfl) (by decide) ?_
                                                          refine T_aload_n (pc := 1086) 1 dL_law_1086 rfl rfl ?_
                                                          refine T_aload_n (pc := 1087) 0 dL_law_1087 rfl rfl ?_
                                                          refine T_iload (pc := 1088) 4 dL_law_1088 rfl ?_
                                                          refine T_iconst (pc := 1090) (v := 1) dL_law_1090 (by decide) ?_
                                                          refine T_iadd (pc := 1091) dL_law_1091 ?_
                                                          refine T_sld (pc := 1092) rfl dL_law_1092 (fun x140 => ?_)
                                                          refine T_callPi (pc := 1093) (rest := []) (Rn_V (pc := 1093) (as := [.int x140]) (rest := []) (ctX11_tempted σ x140) rfl rfl mv_X11_tempted hw1197 rfl ⟨Nat.le_of_ble_eq_true rfl, Nat.le_of_ble_eq_true rfl⟩ (Nat.le_of_ble_eq_true rfl) dL_law_1093 rfl) rfl (fun x141 => ?_)
                                                          refine T_aload_n (pc := 1096) 2 dL_law_1096 rfl rfl ?_
                                                          refine T_aload_n (pc := 1097) 0 dL_law_1097 rfl rfl ?_
                                                          refine T_iload (pc := 1098) 4 dL_law_1098 rfl ?_
                                                          refine T_iconst (pc := 1100) (v := 1) dL_law_1100 (by decide) ?_
                                                          refine T_iadd (pc := 1101) dL_law_1101 ?_
                                                          refine T_sld (pc := 1102) rfl dL_law_1102 (fun x142 => ?_)
                                                          refine T_callSi (pc := 1103) (rest := [.int x141]) (Rn_V (pc := 1103) (as := [.int x142]) (rest := [.int x141]) (ctX12_tempted σ x142) rfl rfl mv_X12_tempted hw2044 rfl ⟨Nat.le_of_ble_eq_true rfl, Nat.le_of_ble_eq_true rfl⟩ (Nat.le_of_ble_eq_true rfl) dL_law_1103 rfl) rfl (fun r143 => ?_)
                                                          refine T_icmp_eq (pc := 1106) 1543 dL_law_1106 (by decide) (fun _ => ?_) (fun _ => ?_)
                                                          · exact fL_law_300_J1543_T xs n (hkb := hkb) r143.2 v4
                                                          · refine T_iconst (pc := 1109) (v := 0) dL_law_1109 (by decide) ?_
                                                            exact T_zreturn (pc := 1110) false rfl dL_law_1110 rfl rfl
                                                        · refine T_ite (fun h27 => ?_) (fun h27 => ?_)
                                                          · refine T_tabIn (pc := 40) (off := 1071) 1111 dL_law_40 (by rw [h27]; decide) (by rw [h27]; decide) (by rw [h27]; rfl) (by decide) ?_
                                                            refine T_aload_n (pc := 1111) 1 dL_law_1111 rfl rfl ?_
                                                            refine T_aload_n (pc := 1112) 0 dL_law_1112 rfl rfl ?_
                                                            refine T_iload (pc := 1113) 4 dL_law_1113 rfl ?_
                                                            refine T_iconst (pc := 1115) (v := 1) dL_law_1115 (by decide) ?_
                                                            refine T_iadd (pc := 1116) dL_law_1116 ?_
                                                            refine T_sld (pc := 1117) rfl dL_law_1117 (fun x144 => ?_)
                                                            refine T_callSz (pc := 1118) (rest := []) (Rn_V (pc := 1118) (as := [.int x144]) (rest := []) (ctX11_boys σ x144) rfl rfl mv_X11_boys hw1210 rfl ⟨Nat.le_of_ble_eq_true rfl, Nat.le_of_ble_eq_true rfl⟩ (Nat.le_of_ble_eq_true rfl) dL_law_1118 rfl) rfl (fun r145 => ?_)
                                                            refine T_aload_n (pc := 1121) 2 dL_law_1121 rfl rfl ?_
                                                            refine T_aload_n (pc := 1122) 0 dL_law_1122 rfl rfl ?_
                                                            refine T_iload (pc := 1123) 4 dL_law_1123 rfl ?_
                                                            refine T_iconst (pc := 1125) (v := 1) dL_law_1125 (by decide) ?_
                                                            refine T_iadd (pc := 1126) dL_law_1126 ?_
                                                            refine T_sld (pc := 1127) rfl dL_law_1127 (fun x146 => ?_)
                                                            refine T_callSz (pc := 1128) (rest := [.int (bi r145.1)]) (Rn_V (pc := 1128) (as := [.int x146]) (rest := [.int (bi r145.1)]) (ctX12_boys r145.2 x146) rfl rfl mv_X12_boys hw2048 rfl ⟨Nat.le_of_ble_eq_true rfl, Nat.le_of_ble_eq_true rfl⟩ (Nat.le_of_ble_eq_true rfl) dL_law_1128 rfl) rfl (fun r147 => ?_)
                                                            refine T_icmp_eq (pc := 1131) 1543 dL_law_1131 (by decide) (fun _ => ?_) (fun _ => ?_)
                                                            · exact fL_law_300_J1543_T xs n (hkb := hkb) r147.2 v4
                                                            · refine T_iconst (pc := 1134) (v := 0) dL_law_1134 (by decide) ?_
                                                              exact T_zreturn (pc := 1135) false rfl dL_law_1135 rfl rfl
                                                          · refine T_ite (fun h28 => ?_) (fun h28 => ?_)
                                                            · refine T_tabIn (pc := 40) (off := 1096) 1136 dL_law_40 (by rw [h28]; decide) (by rw [h28]; decide) (by rw [h28]; rfl) (by decide) ?_
                                                              refine T_aload_n (pc := 1136) 1 dL_law_1136 rfl rfl ?_
                                                              refine T_aload_n (pc := 1137) 0 dL_law_1137 rfl rfl ?_
                                                              refine T_iload (pc := 1138) 4 dL_law_1138 rfl ?_
                                                              refine T_iconst (pc := 1140) (v := 1) dL_law_1140 (by decide) ?_
                                                              refine T_iadd (pc := 1141) dL_law_1141 ?_
                                                              refine T_sld (pc := 1142) rfl dL_law_1142 (fun x148 => ?_)
                                                              refine T_aload_n (pc := 1143) 0 dL_law_1143 rfl rfl ?_
                                                              refine T_iload (pc := 1144) 4 dL_law_1144 rfl ?_
                                                              refine T_iconst (pc := 1146) (v := 2) dL_law_1146 (by decide) ?_
                                                              refine T_iadd (pc := 1147) dL_law_1147 ?_
                                                              refine T_sld (pc := 1148) rfl dL_law_1148 (fun x149 => ?_)
                                                              refine T_callPi (pc := 1149) (rest := []) (Rn_V (pc := 1149) (as := [.int x148, .int x149]) (rest := []) (ctX11_plot σ x148 x149) rfl rfl mv_X11_plot hw1218 rfl ⟨Nat.le_of_ble_eq_true rfl, Nat.le_of_ble_eq_true rfl⟩ (Nat.le_of_ble_eq_true rfl) dL_law_1149 rfl) rfl (fun x150 => ?_)
                                                              refine T_aload_n (pc := 1152) 2 dL_law_1152 rfl rfl ?_
                                                              refine T_aload_n (pc := 1153) 0 dL_law_1153 rfl rfl ?_
                                                              refine T_iload (pc := 1154) 4 dL_law_1154 rfl ?_
                                                              refine T_iconst (pc := 1156) (v := 1) dL_law_1156 (by decide) ?_
                                                              refine T_iadd (pc := 1157) dL_law_1157 ?_
                                                              refine T_sld (pc := 1158) rfl dL_law_1158 (fun x151 => ?_)
                                                              refine T_aload_n (pc := 1159) 0 dL_law_1159 rfl rfl ?_
                                                              refine T_iload (pc := 1160) 4 dL_law_1160 rfl ?_
                                                              refine T_iconst (pc := 1162) (v := 2) dL_law_1162 (by decide) ?_
                                                              refine T_iadd (pc := 1163) dL_law_1163 ?_
                                                              refine T_sld (pc := 1164) rfl dL_law_1164 (fun x152 => ?_)
                                                              refine T_callSi (pc := 1165) (rest := [.int x150]) (Rn_V (pc := 1165) (as := [.int x151, .int x152]) (rest := [.int x150]) (ctX12_plot σ x151 x152) rfl rfl mv_X12_plot hw2052 rfl ⟨Nat.le_of_ble_eq_true rfl, Nat.le_of_ble_eq_true rfl⟩ (Nat.le_of_ble_eq_true rfl) dL_law_1165 rfl) rfl (fun r153 => ?_)
                                                              refine T_icmp_eq (pc := 1168) 1543 dL_law_1168 (by decide) (fun _ => ?_) (fun _ => ?_)
                                                              · exact fL_law_300_J1543_T xs n (hkb := hkb) r153.2 v4
                                                              · refine T_iconst (pc := 1171) (v := 0) dL_law_1171 (by decide) ?_
                                                                exact T_zreturn (pc := 1172) false rfl dL_law_1172 rfl rfl
                                                            · refine T_ite (fun h29 => ?_) (fun h29 => ?_)
                                                              · refine T_tabIn (pc := 40) (off := 1133) 1173 dL_law_40 (by rw [h29]; decide) (by rw [h29]; decide) (by rw [h29]; rfl) (by decide) ?_
                                                                refine T_aload_n (pc := 1173) 1 dL_law_1173 rfl rfl ?_
                                                                refine T_aload_n (pc := 1174) 0 dL_law_1174 rfl rfl ?_
                                                                refine T_iload (pc := 1175) 4 dL_law_1175 rfl ?_
                                                                refine T_iconst (pc := 1177) (v := 1) dL_law_1177 (by decide) ?_
                                                                refine T_iadd (pc := 1178) dL_law_1178 ?_
                                                                refine T_sld (pc := 1179) rfl dL_law_1179 (fun x154 => ?_)
                                                                refine T_aload_n (pc := 1180) 0 dL_law_1180 rfl rfl ?_
                                                                refine T_iload (pc := 1181) 4 dL_law_1181 rfl ?_
                                                                refine T_iconst (pc := 1183) (v := 2) dL_law_1183 (by decide) ?_
                                                                refine T_iadd (pc := 1184) dL_law_1184 ?_
                                                                refine T_sld (pc := 1185) rfl dL_law_1185 (fun x155 => ?_)
                                                                refine T_aload_n (pc := 1186) 0 dL_law_1186 rfl rfl ?_
                                                                refine T_iload (pc := 1187) 4 dL_law_1187 rfl ?_
                                                                refine T_iconst (pc := 1189) (v := 3) dL_law_1189 (by decide) ?_
                                                                refine T_iadd (pc := 1190) dL_law_1190 ?_
                                                                refine T_sld (pc := 1191) rfl dL_law_1191 (fun x156 => ?_)
                                                                refine T_aload_n (pc := 1192) 0 dL_law_1192 rfl rfl ?_
                                                                refine T_iload (pc := 1193) 4 dL_law_1193 rfl ?_
                                                                refine T_iconst (pc := 1195) (v := 4) dL_law_1195 (by decide) ?_
                                                                refine T_iadd (pc := 1196) dL_law_1196 ?_
                                                                refine T_sld (pc := 1197) rfl dL_law_1197 (fun x157 => ?_)
                                                                refine T_callSi (pc := 1198) (rest := []) (Rn_V (pc := 1198) (as := [.int x154, .int x155, .int x156, .int x157]) (rest := []) (ctX11_bars σ x154 x155 x156 x157) rfl rfl mv_X11_bars hw1239 rfl ⟨Nat.le_of_ble_eq_true rfl, Nat.le_of_ble_eq_true rfl⟩ (Nat.le_of_ble_eq_true rfl) dL_law_1198 rfl) rfl (fun r158 => ?_)
                                                                refine T_aload_n (pc := 1201) 2 dL_law_1201 rfl rfl ?_
                                                                refine T_aload_n (pc := 1202) 0 dL_law_1202 rfl rfl ?_
                                                                refine T_iload (pc := 1203) 4 dL_law_1203 rfl ?_
                                                                refine T_iconst (pc := 1205) (v := 1) dL_law_1205 (by decide) ?_
                                                                refine T_iadd (pc := 1206) dL_law_1206 ?_
                                                                refine T_sld (pc := 1207) rfl dL_law_1207 (fun x159 => ?_)
                                                                refine T_aload_n (pc := 1208) 0 dL_law_1208 rfl rfl ?_
                                                                refine T_iload (pc := 1209) 4 dL_law_1209 rfl ?_
                                                                refine T_iconst (pc := 1211) (v := 2) dL_law_1211 (by decide) ?_
                                                                refine T_iadd (pc := 1212) dL_law_1212 ?_
                                                                refine T_sld (pc := 1213) rfl dL_law_1213 (fun x160 => ?_)
                                                                refine T_aload_n (pc := 1214) 0 dL_law_1214 rfl rfl ?_
                                                                refine T_iload (pc := 1215) 4 dL_law_1215 rfl ?_
                                                                refine T_iconst (pc := 1217) (v := 3) dL_law_1217 (by decide) ?_
                                                                refine T_iadd (pc := 1218) dL_law_1218 ?_
                                                                refine T_sld (pc := 1219) rfl dL_law_1219 (fun x161 => ?_)
                                                                refine T_aload_n (pc := 1220) 0 dL_law_1220 rfl rfl ?_
                                                                refine T_iload (pc := 1221) 4 dL_law_1221 rfl ?_
                                                                refine T_iconst (pc := 1223) (v := 4) dL_law_1223 (by decide) ?_
                                                                refine T_iadd (pc := 1224) dL_law_1224 ?_
                                                                refine T_sld (pc := 1225) rfl dL_law_1225 (fun x162 => ?_)
                                                                refine T_callSi (pc := 1226) (rest := [.int r158.1]) (Rn_V (pc := 1226) (as := [.int x159, .int x160, .int x161, .int x162]) (rest := [.int r158.1]) (ctX12_bars r158.2 x159 x160 x161 x162) rfl rfl mv_X12_bars hw2064 rfl ⟨Nat.le_of_ble_eq_true rfl, Nat.le_of_ble_eq_true rfl⟩ (Nat.le_of_ble_eq_true rfl) dL_law_1226 rfl) rfl (fun r163 => ?_)
                                                                refine T_icmp_eq (pc := 1229) 1543 dL_law_1229 (by decide) (fun _ => ?_) (fun _ => ?_)
                                                                · exact fL_law_300_J1543_T xs n (hkb := hkb) r163.2 v4
                                                                · refine T_iconst (pc := 1232) (v := 0) dL_law_1232 (by decide) ?_
                                                                  exact T_zreturn (pc := 1233) false rfl dL_law_1233 rfl rfl
                                                              · refine T_ite (fun h30 => ?_) (fun h30 => ?_)
                                                                · refine T_tabIn (pc := 40) (off := 1194) 1234 dL_law_40 (by rw [h30]; decide) (by rw [h30]; decide) (by rw [h30]; rfl) (by decide) ?_
                                                                  refine T_aload_n (pc := 1234) 1 dL_law_1234 rfl rfl ?_
                                                                  refine T_aload_n (pc := 1235) 0 dL_law_1235 rfl rfl ?_
                                                                  refine T_iload (pc := 1236) 4 dL_law_1236 rfl ?_
                                                                  refine T_iconst (pc := 1238) (v := 1) dL_law_1238 (by decide) ?_
                                                                  refine T_iadd (pc := 1239) dL_law_1239 ?_
                                                                  refine T_sld (pc := 1240) rfl dL_law_1240 (fun x164 => ?_)
                                                                  refine T_aload_n (pc := 1241) 0 dL_law_1241 rfl rfl ?_
                                                                  refine T_iload (pc := 1242) 4 dL_law_1242 rfl ?_
                                                                  refine T_iconst (pc := 1244) (v := 2) dL_law_1244 (by decide) ?_
                                                                  refine T_iadd (pc := 1245) dL_law_1245 ?_
                                                                  refine T_sld (pc := 1246) rfl dL_law_1246 (fun x165 => ?_)
                                                                  refine T_aload_n (pc := 1247) 0 dL_law_1247 rfl rfl ?_
                                                                  refine T_iload (pc := 1248) 4 dL_law_1248 rfl ?_
                                                                  refine T_iconst (pc := 1250) (v := 3) dL_law_1250 (by decide) ?_
                                                                  refine T_iadd (pc := 1251) dL_law_1251 ?_
                                                                  refine T_sld (pc := 1252) rfl dL_law_1252 (fun x166 => ?_)
                                                                  refine T_callSi (pc := 1253) (rest := []) (Rn_V (pc := 1253) (as := [.int x164, .int x165, .int x166]) (rest := []) (ctX11_cast σ x164 x165 x166) rfl rfl mv_X11_cast hw1264 rfl ⟨Nat.le_of_ble_eq_true rfl, Nat.le_of_ble_eq_true rfl⟩ (Nat.le_of_ble_eq_true rfl) dL_law_1253 rfl) rfl (fun r167 => ?_)
                                                                  refine T_aload_n (pc := 1256) 2 dL_law_1256 rfl rfl ?_
                                                                  refine T_aload_n (pc := 1257) 0 dL_law_1257 rfl rfl ?_
                                                                  refine T_iload (pc := 1258) 4 dL_law_1258 rfl ?_
                                                                  refine T_iconst (pc := 1260) (v := 1) dL_law_1260 (by decide) ?_
                                                                  refine T_iadd (pc := 1261) dL_law_1261 ?_
                                                                  refine T_sld (pc := 1262) rfl dL_law_1262 (fun x168 => ?_)
                                                                  refine T_aload_n (pc := 1263) 0 dL_law_1263 rfl rfl ?_
                                                                  refine T_iload (pc := 1264) 4 dL_law_1264 rfl ?_
                                                                  refine T_iconst (pc := 1266) (v := 2) dL_law_1266 (by decide) ?_
                                                                  refine T_iadd (pc := 1267) dL_law_1267 ?_
                                                                  refine T_sld (pc := 1268) rfl dL_law_1268 (fun x169 => ?_)
                                                                  refine T_aload_n (pc := 1269) 0 dL_law_1269 rfl rfl ?_
                                                                  refine T_iload (pc := 1270) 4 dL_law_1270 rfl ?_
                                                                  refine T_iconst (pc := 1272) (v := 3) dL_law_1272 (by decide) ?_
                                                                  refine T_iadd (pc := 1273) dL_law_1273 ?_
                                                                  refine T_sld (pc := 1274) rfl dL_law_1274 (fun x170 => ?_)
                                                                  refine T_callSi (pc := 1275) (rest := [.int r167.1]) (Rn_V (pc := 1275) (as := [.int x168, .int x169, .int x170]) (rest := [.int r167.1]) (ctX12_cast r167.2 x168 x169 x170) rfl rfl mv_X12_cast hw2079 rfl ⟨Nat.le_of_ble_eq_true rfl, Nat.le_of_ble_eq_true rfl⟩ (Nat.le_of_ble_eq_true rfl) dL_law_1275 rfl) rfl (fun r171 => ?_)
                                                                  refine T_icmp_eq (pc := 1278) 1543 dL_law_1278 (by decide) (fun _ => ?_) (fun _ => ?_)
                                                                  · exact fL_law_300_J1543_T xs n (hkb := hkb) r171.2 v4
                                                                  · refine T_iconst (pc := 1281) (v := 0) dL_law_1281 (by decide) ?_
                                                                    exact T_zreturn (pc := 1282) false rfl dL_law_1282 rfl rfl
                                                                · refine T_ite (fun h31 => ?_) (fun h31 => ?_)
                                                                  · refine T_tabIn (pc := 40) (off := 1243) 1283 dL_law_40 (by rw [h31]; decide) (by rw [h31]; decide) (by rw [h31]; rfl) (by decide) ?_
                                                                    refine T_aload_n (pc := 1283) 1 dL_law_1283 rfl rfl ?_
                                                                    refine T_aload_n (pc := 1284) 0 dL_law_1284 rfl rfl ?_
                                                                    refine T_iload (pc := 1285) 4 dL_law_1285 rfl ?_
                                                                    refine T_iconst (pc := 1287) (v := 1) dL_law_1287 (by decide) ?_
                                                                    refine T_iadd (pc := 1288) dL_law_1288 ?_
                                                                    refine T_sld (pc := 1289) rfl dL_law_1289 (fun x172 => ?_)
                                                                    refine T_aload_n (pc := 1290) 0 dL_law_1290 rfl rfl ?_
                                                                    refine T_iload (pc := 1291) 4 dL_law_1291 rfl ?_
                                                                    refine T_iconst (pc := 1293) (v := 2) dL_law_1293 (by decide) ?_
                                                                    refine T_iadd (pc := 1294) dL_law_1294 ?_
                                                                    refine T_sld (pc := 1295) rfl dL_law_1295 (fun x173 => ?_)
                                                                    refine T_callPi (pc := 1296) (rest := []) (Rn_V (pc := 1296) (as := [.int x172, .int x173]) (rest := []) (ctX11_crowd σ x172 x173) rfl rfl mv_X11_crowd hw1290 rfl ⟨Nat.le_of_ble_eq_true rfl, Nat.le_of_ble_eq_true rfl⟩ (Nat.le_of_ble_eq_true rfl) dL_law_1296 rfl) rfl (fun x174 => ?_)
                                                                    refine T_aload_n (pc := 1299) 2 dL_law_1299 rfl rfl ?_
                                                                    refine T_aload_n (pc := 1300) 0 dL_law_1300 rfl rfl ?_
                                                                    refine T_iload (pc := 1301) 4 dL_law_1301 rfl ?_
                                                                    refine T_iconst (pc := 1303) (v := 1) dL_law_1303 (by decide) ?_
                                                                    refine T_iadd (pc := 1304) dL_law_1304 ?_
                                                                    refine T_sld (pc := 1305) rfl dL_law_1305 (fun x175 => ?_)
                                                                    refine T_aload_n (pc := 1306) 0 dL_law_1306 rfl rfl ?_
                                                                    refine T_iload (pc := 1307) 4 dL_law_1307 rfl ?_
                                                                    refine T_iconst (pc := 1309) (v := 2) dL_law_1309 (by decide) ?_
                                                                    refine T_iadd (pc := 1310) dL_law_1310 ?_
                                                                    refine T_sld (pc := 1311) rfl dL_law_1311 (fun x176 => ?_)
                                                                    refine T_callSi (pc := 1312) (rest := [.int x174]) (Rn_V (pc := 1312) (as := [.int x175, .int x176]) (rest := [.int x174]) (ctX12_crowd σ x175 x176) rfl rfl mv_X12_crowd hw2091 rfl ⟨Nat.le_of_ble_eq_true rfl, Nat.le_of_ble_eq_true rfl⟩ (Nat.le_of_ble_eq_true rfl) dL_law_1312 rfl) rfl (fun r177 => ?_)
                                                                    refine T_icmp_eq (pc := 1315) 1543 dL_law_1315 (by decide) (fun _ => ?_) (fun _ => ?_)
                                                                    · exact fL_law_300_J1543_T xs n (hkb := hkb) r177.2 v4
                                                                    · refine T_iconst (pc := 1318) (v := 0) dL_law_1318 (by decide) ?_
                                                                      exact T_zreturn (pc := 1319) false rfl dL_law_1319 rfl rfl
                                                                  · refine T_ite (fun h32 => ?_) (fun h32 => ?_)
                                                                    · refine T_tabIn (pc := 40) (off := 1280) 1320 dL_law_40 (by rw [h32]; decide) (by rw [h32]; decide) (by rw [h32]; rfl) (by decide) ?_
                                                                      refine T_aload_n (pc := 1320) 1 dL_law_1320 rfl rfl ?_
                                                                      refine T_aload_n (pc := 1321) 0 dL_law_1321 rfl rfl ?_
                                                                      refine T_iload (pc := 1322) 4 dL_law_1322 rfl ?_
                                                                      refine T_iconst (pc := 1324) (v := 1) dL_law_1324 (by decide) ?_
                                                                      refine T_iadd (pc := 1325) dL_law_1325 ?_
                                                                      refine T_sld (pc := 1326) rfl dL_law_1326 (fun x178 => ?_)
                                                                      refine T_aload_n (pc := 1327) 0 dL_law_1327 rfl rfl ?_
                                                                      refine T_iload (pc := 1328) 4 dL_law_1328 rfl ?_
                                                                      refine T_iconst (pc := 1330) (v := 2) dL_law_1330 (by decide) ?_
                                                                      refine T_iadd (pc := 1331) dL_law_1331 ?_
                                                                      refine T_sld (pc := 1332) rfl dL_law_1332 (fun x179 => ?_)
                                                                      refine T_aload_n (pc := 1333) 0 dL_law_1333 rfl rfl ?_
                                                                      refine T_iload (pc := 1334) 4 dL_law_1334 rfl ?_
                                                                      refine T_iconst (pc := 1336) (v := 3) dL_law_1336 (by decide) ?_
                                                                      refine T_iadd (pc := 1337) dL_law_1337 ?_
                                                                      refine T_sld (pc := 1338) rfl dL_law_1338 (fun x180 => ?_)
                                                                      refine T_aload_n (pc := 1339) 0 dL_law_1339 rfl rfl ?_
                                                                      refine T_iload (pc := 1340) 4 dL_law_1340 rfl ?_
                                                                      refine T_iconst (pc := 1342) (v := 4) dL_law_1342 (by decide) ?_
                                                                      refine T_iadd (pc := 1343) dL_law_1343 ?_
                                                                      refine T_sld (pc := 1344) rfl dL_law_1344 (fun x181 => ?_)
                                                                      refine T_callSi (pc := 1345) (rest := []) (Rn_V (pc := 1345) (as := [.int x178, .int x179, .int x180, .int x181]) (rest := []) (ctX11_could σ x178 x179 x180 x181) rfl rfl mv_X11_could hw1305 rfl ⟨Nat.le_of_ble_eq_true rfl, Nat.le_of_ble_eq_true rfl⟩ (Nat.le_of_ble_eq_true rfl) dL_law_1345 rfl) rfl (fun r182 => ?_)
                                                                      refine T_aload_n (pc := 1348) 2 dL_law_1348 rfl rfl ?_
                                                                      refine T_aload_n (pc := 1349) 0 dL_law_1349 rfl rfl ?_
                                                                      refine T_iload (pc := 1350) 4 dL_law_1350 rfl ?_
                                                                      refine T_iconst (pc := 1352) (v := 1) dL_law_1352 (by decide) ?_
                                                                      refine T_iadd (pc := 1353) dL_law_1353 ?_
                                                                      refine T_sld (pc := 1354) rfl dL_law_1354 (fun x183 => ?_)
                                                                      refine T_aload_n (pc := 1355) 0 dL_law_1355 rfl rfl ?_
                                                                      refine T_iload (pc := 1356) 4 dL_law_1356 rfl ?_
                                                                      refine T_iconst (pc := 1358) (v := 2) dL_law_1358 (by decide) ?_
                                                                      refine T_iadd (pc := 1359) dL_law_1359 ?_
                                                                      refine T_sld (pc := 1360) rfl dL_law_1360 (fun x184 => ?_)
                                                                      refine T_aload_n (pc := 1361) 0 dL_law_1361 rfl rfl ?_
                                                                      refine T_iload (pc := 1362) 4 dL_law_1362 rfl ?_
                                                                      refine T_iconst (pc := 1364) (v := 3) dL_law_1364 (by decide) ?_
                                                                      refine T_iadd (pc := 1365) dL_law_1365 ?_
                                                                      refine T_sld (pc := 1366) rfl dL_law_1366 (fun x185 => ?_)
                                                                      refine T_aload_n (pc := 1367) 0 dL_law_1367 rfl rfl ?_
                                                                      refine T_iload (pc := 1368) 4 dL_law_1368 rfl ?_
                                                                      refine T_iconst (pc := 1370) (v := 4) dL_law_1370 (by decide) ?_
                                                                      refine T_iadd (pc := 1371) dL_law_1371 ?_
                                                                      refine T_sld (pc := 1372) rfl dL_law_1372 (fun x186 => ?_)
                                                                      refine T_callSi (pc := 1373) (rest := [.int r182.1]) (Rn_V (pc := 1373) (as := [.int x183, .int x184, .int x185, .int x186]) (rest := [.int r182.1]) (ctX12_could r182.2 x183 x184 x185 x186) rfl rfl mv_X12_could hw2096 rfl ⟨Nat.le_of_ble_eq_true rfl, Nat.le_of_ble_eq_true rfl⟩ (Nat.le_of_ble_eq_true rfl) dL_law_1373 rfl) rfl (fun r187 => ?_)
                                                                      refine T_icmp_eq (pc := 1376) 1543 dL_law_1376 (by decide) (fun _ => ?_) (fun _ => ?_)
                                                                      · exact fL_law_300_J1543_T xs n (hkb := hkb) r187.2 v4
                                                                      · refine T_iconst (pc := 1379) (v := 0) dL_law_1379 (by decide) ?_
                                                                        exact T_zreturn (pc := 1380) false rfl dL_law_1380 rfl rfl
                                                                    · refine T_ite (fun h33 => ?_) (fun h33 => ?_)
                                                                      · refine T_tabIn (pc := 40) (off := 1341) 1381 dL_law_40 (by rw [h33]; decide) (by rw [h33]; decide) (by rw [h33]; rfl) (by decide) ?_
                                                                        refine T_aload_n (pc := 1381) 1 dL_law_1381 rfl rfl ?_
                                                                        refine T_aload_n (pc := 1382) 0 dL_law_1382 rfl rfl ?_
                                                                        refine T_iload (pc := 1383) 4 dL_law_1383 rfl ?_
                                                                        refine T_iconst (pc := 1385) (v := 1) dL_law_1385 (by decide) ?_
                                                                        refine T_iadd (pc := 1386) dL_law_1386 ?_
                                                                        refine T_sld (pc := 1387) rfl dL_law_1387 (fun x188 => ?_)
                                                                        refine T_aload_n (pc := 1388) 0 dL_law_1388 rfl rfl ?_
                                                                        refine T_iload (pc := 1389) 4 dL_law_1389 rfl ?_
                                                                        refine T_iconst (pc := 1391) (v := 2) dL_law_1391 (by decide) ?_
                                                                        refine T_iadd (pc := 1392) dL_law_1392 ?_
                                                                        refine T_sld (pc := 1393) rfl dL_law_1393 (fun x189 => ?_)
                                                                        refine T_callSz (pc := 1394) (rest := []) (Rn_V (pc := 1394) (as := [.int x188, .int x189]) (rest := []) (ctX11_habit σ x188 x189) rfl rfl mv_X11_habit hw1316 rfl ⟨Nat.le_of_ble_eq_true rfl, Nat.le_of_ble_eq_true rfl⟩ (Nat.le_of_ble_eq_true rfl) dL_law_1394 rfl) rfl (fun r190 => ?_)
                                                                        refine T_aload_n (pc := 1397) 2 dL_law_1397 rfl rfl ?_
                                                                        refine T_aload_n (pc := 1398) 0 dL_law_1398 rfl rfl ?_
                                                                        refine T_iload (pc := 1399) 4 dL_law_1399 rfl ?_
                                                                        refine T_iconst (pc := 1401) (v := 1) dL_law_1401 (by decide) ?_
                                                                        refine T_iadd (pc := 1402) dL_law_1402 ?_
                                                                        refine T_sld (pc := 1403) rfl dL_law_1403 (fun x191 => ?_)
                                                                        refine T_aload_n (pc := 1404) 0 dL_law_1404 rfl rfl ?_
                                                                        refine T_iload (pc := 1405) 4 dL_law_1405 rfl ?_
                                                                        refine T_iconst (pc := 1407) (v := 2) dL_law_1407 (by decide) ?_
                                                                        refine T_iadd (pc := 1408) dL_law_1408 ?_
                                                                        refine T_sld (pc := 1409) rfl dL_law_1409 (fun x192 => ?_)
                                                                        refine T_callSz (pc := 1410) (rest := [.int (bi r190.1)]) (Rn_V (pc := 1410) (as := [.int x191, .int x192]) (rest := [.int (bi r190.1)]) (ctX12_habit r190.2 x191 x192) rfl rfl mv_X12_habit hw2100 rfl ⟨Nat.le_of_ble_eq_true rfl, Nat.le_of_ble_eq_true rfl⟩ (Nat.le_of_ble_eq_true rfl) dL_law_1410 rfl) rfl (fun r193 => ?_)
                                                                        refine T_icmp_eq (pc := 1413) 1543 dL_law_1413 (by decide) (fun _ => ?_) (fun _ => ?_)
                                                                        · exact fL_law_300_J1543_T xs n (hkb := hkb) r193.2 v4
                                                                        · refine T_iconst (pc := 1416) (v := 0) dL_law_1416 (by decide) ?_
                                                                          exact T_zreturn (pc := 1417) false rfl dL_law_1417 rfl rfl
                                                                      · refine T_ite (fun h34 => ?_) (fun h34 => ?_)
                                                                        · refine T_tabIn (pc := 40) (off := 1378) 1418 dL_law_40 (by rw [h34]; decide) (by rw [h34]; decide) (by rw [h34]; rfl) (by decide) ?_
                                                                          refine T_aload_n (pc := 1418) 1 dL_law_1418 rfl rfl ?_
                                                                          refine T_aload_n (pc := 1419) 0 dL_law_1419 rfl rfl ?_
                                                                          refine T_iload (pc := 1420) 4 dL_law_1420 rfl ?_
                                                                          refine T_iconst (pc := 1422) (v := 1) dL_law_1422 (by decide) ?_
                                                                          refine T_iadd (pc := 1423) dL_law_1423 ?_
                                                                          refine T_sld (pc := 1424) rfl dL_law_1424 (fun x194 => ?_)
                                                                          refine T_aload_n (pc := 1425) 0 dL_law_1425 rfl rfl ?_
                                                                          refine T_iload (pc := 1426) 4 dL_law_1426 rfl ?_
                                                                          refine T_iconst (pc := 1428) (v := 2) dL_law_1428 (by decide) ?_
                                                                          refine T_iadd (pc := 1429) dL_law_1429 ?_
                                                                          refine T_sld (pc := 1430) rfl dL_law_1430 (fun x195 => ?_)
                                                                          refine T_callSi (pc := 1431) (rest := []) (Rn_V (pc := 1431) (as := [.int x194, .int x195]) (rest := []) (ctX11_worth σ x194 x195) rfl rfl mv_X11_worth hw1329 rfl ⟨Nat.le_of_ble_eq_true rfl, Nat.le_of_ble_eq_true rfl⟩ (Nat.le_of_ble_eq_true rfl) dL_law_1431 rfl) rfl (fun r196 => ?_)
                                                                          refine T_aload_n (pc := 1434) 2 dL_law_1434 rfl rfl ?_
                                                                          refine T_aload_n (pc := 1435) 0 dL_law_1435 rfl rfl ?_
                                                                          refine T_iload (pc := 1436) 4 dL_law_1436 rfl ?_
                                                                          refine T_iconst (pc := 1438) (v := 1) dL_law_1438 (by decide) ?_
                                                                          refine T_iadd (pc := 1439) dL_law_1439 ?_
                                                                          refine T_sld (pc := 1440) rfl dL_law_1440 (fun x197 => ?_)
                                                                          refine T_aload_n (pc := 1441) 0 dL_law_1441 rfl rfl ?_
                                                                          refine T_iload (pc := 1442) 4 dL_law_1442 rfl ?_
                                                                          refine T_iconst (pc := 1444) (v := 2) dL_law_1444 (by decide) ?_
                                                                          refine T_iadd (pc := 1445) dL_law_1445 ?_
                                                                          refine T_sld (pc := 1446) rfl dL_law_1446 (fun x198 => ?_)
                                                                          refine T_callSi (pc := 1447) (rest := [.int r196.1]) (Rn_V (pc := 1447) (as := [.int x197, .int x198]) (rest := [.int r196.1]) (ctX12_worth r196.2 x197 x198) rfl rfl mv_X12_worth hw2108 rfl ⟨Nat.le_of_ble_eq_true rfl, Nat.le_of_ble_eq_true rfl⟩ (Nat.le_of_ble_eq_true rfl) dL_law_1447 rfl) rfl (fun r199 => ?_)
                                                                          refine T_icmp_eq (pc := 1450) 1543 dL_law_1450 (by decide) (fun _ => ?_) (fun _ => ?_)
                                                                          · exact fL_law_300_J1543_T xs n (hkb := hkb) r199.2 v4
                                                                          · refine T_iconst (pc := 1453) (v := 0) dL_law_1453 (by decide) ?_
                                                                            exact T_zreturn (pc := 1454) false rfl dL_law_1454 rfl rfl
                                                                        · refine T_ite (fun h35 => ?_) (fun h35 => ?_)
                                                                          · refine T_tabIn (pc := 40) (off := 1415) 1455 dL_law_40 (by rw [h35]; decide) (by rw [h35]; decide) (by rw [h35]; rfl) (by decide) ?_
                                                                            refine T_aload_n (pc := 1455) 1 dL_law_1455 rfl rfl ?_
                                                                            refine T_aload_n (pc := 1456) 0 dL_law_1456 rfl rfl ?_
                                                                            refine T_iload (pc := 1457) 4 dL_law_1457 rfl ?_
                                                                            refine T_iconst (pc := 1459) (v := 1) dL_law_1459 (by decide) ?_
                                                                            refine T_iadd (pc := 1460) dL_law_1460 ?_
                                                                            refine T_sld (pc := 1461) rfl dL_law_1461 (fun x200 => ?_)
                                                                            refine T_aload_n (pc := 1462) 0 dL_law_1462 rfl rfl ?_
                                                                            refine T_iload (pc := 1463) 4 dL_law_1463 rfl ?_
                                                                            refine T_iconst (pc := 1465) (v := 2) dL_law_1465 (by decide) ?_
                                                                            refine T_iadd (pc := 1466) dL_law_1466 ?_
                                                                            refine T_sld (pc := 1467) rfl dL_law_1467 (fun x201 => ?_)
                                                                            refine T_callSi (pc := 1468) (rest := []) (Rn_V (pc := 1468) (as := [.int x200, .int x201]) (rest := []) (ctX11_likely σ x200 x201) rfl rfl mv_X11_likely hw1363 rfl ⟨Nat.le_of_ble_eq_true rfl, Nat.le_of_ble_eq_true rfl⟩ (Nat.le_of_ble_eq_true rfl) dL_law_1468 rfl) rfl (fun r202 => ?_)
                                                                            refine T_aload_n (pc := 1471) 2 dL_law_1471 rfl rfl ?_
                                                                            refine T_aload_n (pc := 1472) 0 dL_law_1472 rfl rfl ?_
                                                                            refine T_iload (pc := 1473) 4 dL_law_1473 rfl ?_
                                                                            refine T_iconst (pc := 1475) (v := 1) dL_law_1475 (by decide) ?_
                                                                            refine T_iadd (pc := 1476) dL_law_1476 ?_
                                                                            refine T_sld (pc := 1477) rfl dL_law_1477 (fun x203 => ?_)
                                                                            refine T_aload_n (pc := 1478) 0 dL_law_1478 rfl rfl ?_
                                                                            refine T_iload (pc := 1479) 4 dL_law_1479 rfl ?_
                                                                            refine T_iconst (pc := 1481) (v := 2) dL_law_1481 (by decide) ?_
                                                                            refine T_iadd (pc := 1482) dL_law_1482 ?_
                                                                            refine T_sld (pc := 1483) rfl dL_law_1483 (fun x204 => ?_)
                                                                            refine T_callSi (pc := 1484) (rest := [.int r202.1]) (Rn_V (pc := 1484) (as := [.int x203, .int x204]) (rest := [.int r202.1]) (ctX12_likely r202.2 x203 x204) rfl rfl mv_X12_likely hw2117 rfl ⟨Nat.le_of_ble_eq_true rfl, Nat.le_of_ble_eq_true rfl⟩ (Nat.le_of_ble_eq_true rfl) dL_law_1484 rfl) rfl (fun r205 => ?_)
                                                                            refine T_icmp_eq (pc := 1487) 1543 dL_law_1487 (by decide) (fun _ => ?_) (fun _ => ?_)
                                                                            · exact fL_law_300_J1543_T xs n (hkb := hkb) r205.2 v4
                                                                            · refine T_iconst (pc := 1490) (v := 0) dL_law_1490 (by decide) ?_
                                                                              exact T_zreturn (pc := 1491) false rfl dL_law_1491 rfl rfl
                                                                          · refine T_ite (fun h36 => ?_) (fun h36 => ?_)
                                                                            · refine T_tabIn (pc := 40) (off := 1452) 1492 dL_law_40 (by rw [h36]; decide) (by rw [h36]; decide) (by rw [h36]; rfl) (by decide) ?_
                                                                              refine T_aload_n (pc := 1492) 1 dL_law_1492 rfl rfl ?_
                                                                              refine T_callSi (pc := 1493) (rest := []) (Rn_V (pc := 1493) (as := []) (rest := []) (ctX11_keep σ) rfl rfl mv_X11_keep hw1380 rfl ⟨Nat.le_of_ble_eq_true rfl, Nat.le_of_ble_eq_true rfl⟩ (Nat.le_of_ble_eq_true rfl) dL_law_1493 rfl) rfl (fun r206 => ?_)
                                                                              refine T_aload_n (pc := 1496) 2 dL_law_1496 rfl rfl ?_
                                                                              refine T_callSi (pc := 1497) (rest := [.int r206.1]) (Rn_V (pc := 1497) (as := []) (rest := [.int r206.1]) (ctX12_keep r206.2) rfl rfl mv_X12_keep hw2121 rfl ⟨Nat.le_of_ble_eq_true rfl, Nat.le_of_ble_eq_true rfl⟩ (Nat.le_of_ble_eq_true rfl) dL_law_1497 rfl) rfl (fun r207 => ?_)
                                                                              refine T_icmp_eq (pc := 1500) 1543 dL_law_1500 (by decide) (fun _ => ?_) (fun _ => ?_)
                                                                              · exact fL_law_300_J1543_T xs n (hkb := hkb) r207.2 v4
                                                                              · refine T_iconst (pc := 1503) (v := 0) dL_law_1503 (by decide) ?_
                                                                                exact T_zreturn (pc := 1504) false rfl dL_law_1504 rfl rfl
                                                                            · refine T_ite (fun h37 => ?_) (fun h37 => ?_)
                                                                              · refine T_tabIn (pc := 40) (off := 1465) 1505 dL_law_40 (by rw [h37]; decide) (by rw [h37]; decide) (by rw [h37]; rfl) (by decide) ?_
                                                                                refine T_aload_n (pc := 1505) 1 dL_law_1505 rfl rfl ?_
                                                                                refine T_callSi (pc := 1506) (rest := []) (Rn_V (pc := 1506) (as := []) (rest := []) (ctX11_back σ) rfl rfl mv_X11_back hw1385 rfl ⟨Nat.le_of_ble_eq_true rfl, Nat.le_of_ble_eq_true rfl⟩ (Nat.le_of_ble_eq_true rfl) dL_law_1506 rfl) rfl (fun r208 => ?_)
                                                                                refine T_aload_n (pc := 1509) 2 dL_law_1509 rfl rfl ?_
                                                                                refine T_callSi (pc := 1510) (rest := [.int r208.1]) (Rn_V (pc := 1510) (as := []) (rest := [.int r208.1]) (ctX12_back r208.2) rfl rfl mv_X12_back hw2125 rfl ⟨Nat.le_of_ble_eq_true rfl, Nat.le_of_ble_eq_true rfl⟩ (Nat.le_of_ble_eq_true rfl) dL_law_1510 rfl) rfl (fun r209 => ?_)
                                                                                refine T_icmp_eq (pc := 1513) 1543 dL_law_1513 (by decide) (fun _ => ?_) (fun _ => ?_)
                                                                                · exact fL_law_300_J1543_T xs n (hkb := hkb) r209.2 v4
                                                                                · refine T_iconst (pc := 1516) (v := 0) dL_law_1516 (by decide) ?_
                                                                                  exact T_zreturn (pc := 1517) false rfl dL_law_1517 rfl rfl
                                                                              · refine T_ite (fun h38 => ?_) (fun h38 => ?_)
                                                                                · refine T_tabIn (pc := 40) (off := 1478) 1518 dL_law_40 (by rw [h38]; decide) (by rw [h38]; decide) (by rw [h38]; rfl) (by decide) ?_
                                                                                  refine T_aload_n (pc := 1518) 1 dL_law_1518 rfl rfl ?_
                                                                                  refine T_aload_n (pc := 1519) 0 dL_law_1519 rfl rfl ?_
                                                                                  refine T_iload (pc := 1520) 4 dL_law_1520 rfl ?_
                                                                                  refine T_iconst (pc := 1522) (v := 1) dL_law_1522 (by decide) ?_
                                                                                  refine T_iadd (pc := 1523) dL_law_1523 ?_
                                                                                  refine T_sld (pc := 1524) rfl dL_law_1524 (fun x210 => ?_)
                                                                                  refine T_callPi (pc := 1525) (rest := []) (Rn_V (pc := 1525) (as := [.int x210]) (rest := []) (ctX11_count σ x210) rfl rfl mv_X11_count hw1397 rfl ⟨Nat.le_of_ble_eq_true rfl, Nat.le_of_ble_eq_true rfl⟩ (Nat.le_of_ble_eq_true rfl) dL_law_1525 rfl) rfl (fun x211 => ?_)
                                                                                  refine T_aload_n (pc := 1528) 2 dL_law_1528 rfl rfl ?_
                                                                                  refine T_aload_n (pc := 1529) 0 dL_law_1529 rfl rfl ?_
                                                                                  refine T_iload (pc := 1530) 4 dL_law_1530 rfl ?_
                                                                                  refine T_iconst (pc := 1532) (v := 1) dL_law_1532 (by decide) ?_
                                                                                  refine T_iadd (pc := 1533) dL_law_1533 ?_
                                                                                  refine T_sld (pc := 1534) rfl dL_law_1534 (fun x212 => ?_)
                                                                                  refine T_callSi (pc := 1535) (rest := [.int x211]) (Rn_V (pc := 1535) (as := [.int x212]) (rest := [.int x211]) (ctX12_count σ x212) rfl rfl mv_X12_count hw2129 rfl ⟨Nat.le_of_ble_eq_true rfl, Nat.le_of_ble_eq_true rfl⟩ (Nat.le_of_ble_eq_true rfl) dL_law_1535 rfl) rfl (fun r213 => ?_)
                                                                                  refine T_icmp_eq (pc := 1538) 1543 dL_law_1538 (by decide) (fun _ => ?_) (fun _ => ?_)
                                                                                  · exact fL_law_300_J1543_T xs n (hkb := hkb) r213.2 v4
                                                                                  · refine T_iconst (pc := 1541) (v := 0) dL_law_1541 (by decide) ?_
                                                                                    exact T_zreturn (pc := 1542) false rfl dL_law_1542 rfl rfl
                                                                                · refine T_tabOut (pc := 40) 1543 dL_law_40 (by have a0 := i32_ne (n := 0) h0 rfl; have a1 := i32_ne (n := 1) h1 rfl; have a2 := i32_ne (n := 2) h2 rfl; have a3 := i32_ne (n := 3) h3 rfl; have a4 := i32_ne (n := 4) h4 rfl; have a5 := i32_ne (n := 5) h5 rfl; have a6 := i32_ne (n := 6) h6 rfl; have a7 := i32_ne (n := 7) h7 rfl; have a8 := i32_ne (n := 8) h8 rfl; have a9 := i32_ne (n := 9) h9 rfl; have a10 := i32_ne (n := 10) h10 rfl; have a11 := i32_ne (n := 11) h11 rfl; have a12 := i32_ne (n := 12) h12 rfl; have a13 := i32_ne (n := 13) h13 rfl; have a14 := i32_ne (n := 14) h14 rfl; have a15 := i32_ne (n := 15) h15 rfl; have a16 := i32_ne (n := 16) h16 rfl; have a17 := i32_ne (n := 17) h17 rfl; have a18 := i32_ne (n := 18) h18 rfl; have a19 := i32_ne (n := 19) h19 rfl; have a20 := i32_ne (n := 20) h20 rfl; have a21 := i32_ne (n := 21) h21 rfl; have a22 := i32_ne (n := 22) h22 rfl; have a23 := i32_ne (n := 23) h23 rfl; have a24 := i32_ne (n := 24) h24 rfl; have a25 := i32_ne (n := 25) h25 rfl; have a26 := i32_ne (n := 26) h26 rfl; have a27 := i32_ne (n := 27) h27 rfl; have a28 := i32_ne (n := 28) h28 rfl; have a29 := i32_ne (n := 29) h29 rfl; have a30 := i32_ne (n := 30) h30 rfl; have a31 := i32_ne (n := 31) h31 rfl; have a32 := i32_ne (n := 32) h32 rfl; have a33 := i32_ne (n := 33) h33 rfl; have a34 := i32_ne (n := 34) h34 rfl; have a35 := i32_ne (n := 35) h35 rfl; have a36 := i32_ne (n := 36) h36 rfl; have a37 := i32_ne (n := 37) h37 rfl; have a38 := i32_ne (n := 38) h38 rfl; omega) (by decide) ?_
                                                                                  exact fL_law_300_J1543_T xs n (hkb := hkb) σ v4
set_option maxRecDepth 100000 in
set_option maxHeartbeats 4000000 in
theorem fL_law_300_P23_T (xs : Nat → Int32) (n : Nat) (σ : St) (v4 : Int32) : T (kL_law xs n) cSz σ 23 [(0, .ref 300), (1, .ref 0), (2, .ref 10), (3, .ref 88), (4, .int v4)] [] (fL_law_300_P23 xs n σ v4) :=
  it_T (S := (fun t : St × Int32 => t.1)) (lv := fun t : St × Int32 => [(0, .ref 300), (1, .ref 0), (2, .ref 10), (3, .ref 88), (4, .int t.2)]) (st := fun _ => []) (fun kb hkb t => fL_law_300_L23_T xs n (hkb := fun σ v4 => hkb (σ, v4)) t.1 t.2) FU (σ, v4)
