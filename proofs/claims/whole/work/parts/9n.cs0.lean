set_option maxRecDepth 100000 in
set_option maxHeartbeats 4000000 in
theorem lcs_0 {nm : String} {tb : List (Nat × Nat × Nat × Nat)} {b L i t cs ss : Nat} {xs : Nat → Int32} {x : kK} {y : kY} {f : Nat → Int64} {d : Nat → UInt64} (X : RX t x y) (ht : t + 11 < 2 ^ 20) (hi : i + 4 ≤ L) (hL : L ≤ 2048) (hc : cs + 1 ≤ 603072) (hs : ss + 6 ≤ 7182442) (go : LG nm tb b L xs i (t + 11) (cs + 1) (ss + 6)) : kEv (kLw nm tb) RW (FL b L xs) false 284 [.ref 2000, .ref 0, .ref 116, .ref 128, .ref 129, .int (nI i), .retAddr 0, .retAddr 0, .retAddr 0] [] (h4 x y f d) 130 cs ss := by
  by_cases eb : xs (i + 3) = 0
  · obtain ⟨X2, alt⟩ := s_setTree X (by omega) (a := (xs (i + 1))) (b := (xs (i + 2))) (c := 0)
    have hK := m_X11_setTree (x := x) (r := kHr y (kJ 1 f, kDb 1 d)) (a1 := (xs (i + 1))) (a2 := (xs (i + 2))) (a3 := 0) X.R.iv X.hi
    rcases alt with ⟨eo, e0⟩ | ⟨eo, e0⟩ | ⟨eo, e0⟩
    · rw [eo] at hK
      have hm := v_L_setTree (h2 := h4 (g_X11_setTree x (xs (i + 1)) (xs (i + 2)) 0) y f d) hK rfl rfl
      rw [h4_f] at hm
      refine k_aload_n (i := 1) dL_law_284 (rfl : 284 + 1 = 285) rfl rfl ?_
      refine k_aload_n (i := 0) dL_law_285 (rfl : 285 + 1 = 286) rfl rfl ?_
      refine k_iload (i := 5) dL_law_286 (rfl : 286 + 2 = 288) rfl ?_
      refine k_iconst (v := 1) dL_law_288 (rfl : 288 + 1 = 289) (by decide) ?_
      refine k_iadd dL_law_289 (rfl : 289 + 1 = 290) ?_
      refine k_sld (j := i + 1) dL_law_290 (rfl : 290 + 1 = 291) (nI_add i 1) (by omega) (by omega) ?_
      refine k_aload_n (i := 0) dL_law_291 (rfl : 291 + 1 = 292) rfl rfl ?_
      refine k_iload (i := 5) dL_law_292 (rfl : 292 + 2 = 294) rfl ?_
      refine k_iconst (v := 2) dL_law_294 (rfl : 294 + 1 = 295) (by decide) ?_
      refine k_iadd dL_law_295 (rfl : 295 + 1 = 296) ?_
      refine k_sld (j := i + 2) dL_law_296 (rfl : 296 + 1 = 297) (nI_add i 2) (by omega) (by omega) ?_
      refine k_aload_n (i := 0) dL_law_297 (rfl : 297 + 1 = 298) rfl rfl ?_
      refine k_iload (i := 5) dL_law_298 (rfl : 298 + 2 = 300) rfl ?_
      refine k_iconst (v := 3) dL_law_300 (rfl : 300 + 1 = 301) (by decide) ?_
      refine k_iadd dL_law_301 (rfl : 301 + 1 = 302) ?_
      refine k_sld (j := i + 3) dL_law_302 (rfl : 302 + 1 = 303) (nI_add i 3) (by omega) (by omega) ?_
      refine k_if_eq (tgt := 310) dL_law_303 (rfl : 303 + 3 = 306) (by decide) (fun _ => ?_) (fun b => absurd eb b)
      refine k_iconst (v := 0) dL_law_310 (rfl : 310 + 1 = 311) (by decide) ?_
      refine k_aload_n (i := 3) dL_law_311 (rfl : 311 + 1 = 312) rfl rfl ?_
      refine k_callSTd5 cv_L_155 ⟨Nat.le_of_ble_eq_true rfl, Nat.le_of_ble_eq_true rfl⟩ hm dL_law_312 (rfl : 312 + 3 = 315) rfl (lc1 hc hs) rfl ?_
      refine k_istore (i := 6) dL_law_315 (rfl : 315 + 2 = 317) (Nat.le_of_ble_eq_true rfl) ?_
      refine k_ls (ls2 := [.ref 2000, .ref 0, .ref 116, .ref 128, .ref 129, .int (nI i), .int 0, .retAddr 0, .retAddr 0]) rfl ?_
      refine k_aload_n (i := 2) dL_law_317 (rfl : 317 + 1 = 318) rfl rfl ?_
      refine k_aload_n (i := 0) dL_law_318 (rfl : 318 + 1 = 319) rfl rfl ?_
      refine k_iload (i := 5) dL_law_319 (rfl : 319 + 2 = 321) rfl ?_
      refine k_iconst (v := 1) dL_law_321 (rfl : 321 + 1 = 322) (by decide) ?_
      refine k_iadd dL_law_322 (rfl : 322 + 1 = 323) ?_
      refine k_sld (j := i + 1) dL_law_323 (rfl : 323 + 1 = 324) (nI_add i 1) (by omega) (by omega) ?_
      refine k_aload_n (i := 0) dL_law_324 (rfl : 324 + 1 = 325) rfl rfl ?_
      refine k_iload (i := 5) dL_law_325 (rfl : 325 + 2 = 327) rfl ?_
      refine k_iconst (v := 2) dL_law_327 (rfl : 327 + 1 = 328) (by decide) ?_
      refine k_iadd dL_law_328 (rfl : 328 + 1 = 329) ?_
      refine k_sld (j := i + 2) dL_law_329 (rfl : 329 + 1 = 330) (nI_add i 2) (by omega) (by omega) ?_
      refine k_aload_n (i := 0) dL_law_330 (rfl : 330 + 1 = 331) rfl rfl ?_
      refine k_iload (i := 5) dL_law_331 (rfl : 331 + 2 = 333) rfl ?_
      refine k_iconst (v := 3) dL_law_333 (rfl : 333 + 1 = 334) (by decide) ?_
      refine k_iadd dL_law_334 (rfl : 334 + 1 = 335) ?_
      refine k_sld (j := i + 3) dL_law_335 (rfl : 335 + 1 = 336) (nI_add i 3) (by omega) (by omega) ?_
      refine k_if_eq (tgt := 343) dL_law_336 (rfl : 336 + 3 = 339) (by decide) (fun _ => ?_) (fun b => absurd eb b)
      refine k_iconst (v := 0) dL_law_343 (rfl : 343 + 1 = 344) (by decide) ?_
      refine k_callVd3 cv_L_160 ⟨Nat.le_of_ble_eq_true rfl, Nat.le_of_ble_eq_true rfl⟩ (m_X12_setTree (x := y) (a1 := (xs (i + 1))) (a2 := (xs (i + 2))) (a3 := 0) X.ch X.R.mv) dL_law_344 (rfl : 344 + 3 = 347) (Nat.le_of_ble_eq_true rfl) rfl rfl rfl (lc1 hc hs) ?_
      refine k_istore (i := 7) dL_law_347 (rfl : 347 + 2 = 349) (Nat.le_of_ble_eq_true rfl) ?_
      refine k_ls (ls2 := [.ref 2000, .ref 0, .ref 116, .ref 128, .ref 129, .int (nI i), .int 0, .int (f_X12_setTree y (xs (i + 1)) (xs (i + 2)) 0), .retAddr 0]) rfl ?_
      refine k_aload_n (i := 2) dL_law_349 (rfl : 349 + 1 = 350) rfl rfl ?_
      refine k_callVd0 cv_L_161 ⟨Nat.le_of_ble_eq_true rfl, Nat.le_of_ble_eq_true rfl⟩ (m_X12_thrown (x := (g_X12_setTree y (xs (i + 1)) (xs (i + 2)) 0))) dL_law_350 (rfl : 350 + 3 = 353) (Nat.le_of_ble_eq_true rfl) rfl rfl rfl (lc1 hc hs) ?_
      refine k_iload (i := 6) dL_law_353 (rfl : 353 + 2 = 355) rfl ?_
      refine k_icmp_eq (tgt := 360) dL_law_355 (rfl : 355 + 3 = 358) (by decide) (fun _ => ?_) (fun b => absurd e0 b)
      refine k_iload (i := 6) dL_law_360 (rfl : 360 + 2 = 362) rfl ?_
      refine k_if_ne (tgt := 377) dL_law_362 (rfl : 362 + 3 = 365) (by decide) (fun b => absurd b (by decide)) (fun _ => ?_)
      refine k_aload_n (i := 3) dL_law_365 (rfl : 365 + 1 = 366) rfl rfl ?_
      refine k_iconst (v := 0) dL_law_366 (rfl : 366 + 1 = 367) (by decide) ?_
      refine k_lald dL_law_367 (rfl : 367 + 1 = 368) (Nat.le_of_ble_eq_true rfl) rfl vp_00 ?_
      refine k_iload (i := 7) dL_law_368 (rfl : 368 + 2 = 370) rfl ?_
      refine k_i2l dL_law_370 (rfl : 370 + 1 = 371) ?_
      refine k_lcmp dL_law_371 (rfl : 371 + 1 = 372) ?_
      refine k_if_eq (tgt := 377) dL_law_372 (rfl : 372 + 3 = 375) (by decide) (fun _ => ?_) (fun b => absurd (lg_cmp_0.2 uL0) b)
      refine k_goto (tgt := 2815) dL_law_377 (by decide) ?_
      exact l_go go X2 (by omega) (Nat.le_refl _) (Nat.le_refl _)
    · rw [eo] at hK
      have hm := x1_L_setTree (h2 := h4 (g_X11_setTree x (xs (i + 1)) (xs (i + 2)) 0) y f d) hK rfl
      refine k_aload_n (i := 1) dL_law_284 (rfl : 284 + 1 = 285) rfl rfl ?_
      refine k_aload_n (i := 0) dL_law_285 (rfl : 285 + 1 = 286) rfl rfl ?_
      refine k_iload (i := 5) dL_law_286 (rfl : 286 + 2 = 288) rfl ?_
      refine k_iconst (v := 1) dL_law_288 (rfl : 288 + 1 = 289) (by decide) ?_
      refine k_iadd dL_law_289 (rfl : 289 + 1 = 290) ?_
      refine k_sld (j := i + 1) dL_law_290 (rfl : 290 + 1 = 291) (nI_add i 1) (by omega) (by omega) ?_
      refine k_aload_n (i := 0) dL_law_291 (rfl : 291 + 1 = 292) rfl rfl ?_
      refine k_iload (i := 5) dL_law_292 (rfl : 292 + 2 = 294) rfl ?_
      refine k_iconst (v := 2) dL_law_294 (rfl : 294 + 1 = 295) (by decide) ?_
      refine k_iadd dL_law_295 (rfl : 295 + 1 = 296) ?_
      refine k_sld (j := i + 2) dL_law_296 (rfl : 296 + 1 = 297) (nI_add i 2) (by omega) (by omega) ?_
      refine k_aload_n (i := 0) dL_law_297 (rfl : 297 + 1 = 298) rfl rfl ?_
      refine k_iload (i := 5) dL_law_298 (rfl : 298 + 2 = 300) rfl ?_
      refine k_iconst (v := 3) dL_law_300 (rfl : 300 + 1 = 301) (by decide) ?_
      refine k_iadd dL_law_301 (rfl : 301 + 1 = 302) ?_
      refine k_sld (j := i + 3) dL_law_302 (rfl : 302 + 1 = 303) (nI_add i 3) (by omega) (by omega) ?_
      refine k_if_eq (tgt := 310) dL_law_303 (rfl : 303 + 3 = 306) (by decide) (fun _ => ?_) (fun b => absurd eb b)
      refine k_iconst (v := 0) dL_law_310 (rfl : 310 + 1 = 311) (by decide) ?_
      refine k_aload_n (i := 3) dL_law_311 (rfl : 311 + 1 = 312) rfl rfl ?_
      refine k_callSTd5 cv_L_155 ⟨Nat.le_of_ble_eq_true rfl, Nat.le_of_ble_eq_true rfl⟩ hm dL_law_312 (rfl : 312 + 3 = 315) rfl (lc1 hc hs) rfl ?_
      refine k_istore (i := 6) dL_law_315 (rfl : 315 + 2 = 317) (Nat.le_of_ble_eq_true rfl) ?_
      refine k_ls (ls2 := [.ref 2000, .ref 0, .ref 116, .ref 128, .ref 129, .int (nI i), .int 1, .retAddr 0, .retAddr 0]) rfl ?_
      refine k_aload_n (i := 2) dL_law_317 (rfl : 317 + 1 = 318) rfl rfl ?_
      refine k_aload_n (i := 0) dL_law_318 (rfl : 318 + 1 = 319) rfl rfl ?_
      refine k_iload (i := 5) dL_law_319 (rfl : 319 + 2 = 321) rfl ?_
      refine k_iconst (v := 1) dL_law_321 (rfl : 321 + 1 = 322) (by decide) ?_
      refine k_iadd dL_law_322 (rfl : 322 + 1 = 323) ?_
      refine k_sld (j := i + 1) dL_law_323 (rfl : 323 + 1 = 324) (nI_add i 1) (by omega) (by omega) ?_
      refine k_aload_n (i := 0) dL_law_324 (rfl : 324 + 1 = 325) rfl rfl ?_
      refine k_iload (i := 5) dL_law_325 (rfl : 325 + 2 = 327) rfl ?_
      refine k_iconst (v := 2) dL_law_327 (rfl : 327 + 1 = 328) (by decide) ?_
      refine k_iadd dL_law_328 (rfl : 328 + 1 = 329) ?_
      refine k_sld (j := i + 2) dL_law_329 (rfl : 329 + 1 = 330) (nI_add i 2) (by omega) (by omega) ?_
      refine k_aload_n (i := 0) dL_law_330 (rfl : 330 + 1 = 331) rfl rfl ?_
      refine k_iload (i := 5) dL_law_331 (rfl : 331 + 2 = 333) rfl ?_
      refine k_iconst (v := 3) dL_law_333 (rfl : 333 + 1 = 334) (by decide) ?_
      refine k_iadd dL_law_334 (rfl : 334 + 1 = 335) ?_
      refine k_sld (j := i + 3) dL_law_335 (rfl : 335 + 1 = 336) (nI_add i 3) (by omega) (by omega) ?_
      refine k_if_eq (tgt := 343) dL_law_336 (rfl : 336 + 3 = 339) (by decide) (fun _ => ?_) (fun b => absurd eb b)
      refine k_iconst (v := 0) dL_law_343 (rfl : 343 + 1 = 344) (by decide) ?_
      refine k_callVd3 cv_L_160 ⟨Nat.le_of_ble_eq_true rfl, Nat.le_of_ble_eq_true rfl⟩ (m_X12_setTree (x := y) (a1 := (xs (i + 1))) (a2 := (xs (i + 2))) (a3 := 0) X.ch X.R.mv) dL_law_344 (rfl : 344 + 3 = 347) (Nat.le_of_ble_eq_true rfl) rfl rfl rfl (lc1 hc hs) ?_
      refine k_istore (i := 7) dL_law_347 (rfl : 347 + 2 = 349) (Nat.le_of_ble_eq_true rfl) ?_
      refine k_ls (ls2 := [.ref 2000, .ref 0, .ref 116, .ref 128, .ref 129, .int (nI i), .int 1, .int (f_X12_setTree y (xs (i + 1)) (xs (i + 2)) 0), .retAddr 0]) rfl ?_
      refine k_aload_n (i := 2) dL_law_349 (rfl : 349 + 1 = 350) rfl rfl ?_
      refine k_callVd0 cv_L_161 ⟨Nat.le_of_ble_eq_true rfl, Nat.le_of_ble_eq_true rfl⟩ (m_X12_thrown (x := (g_X12_setTree y (xs (i + 1)) (xs (i + 2)) 0))) dL_law_350 (rfl : 350 + 3 = 353) (Nat.le_of_ble_eq_true rfl) rfl rfl rfl (lc1 hc hs) ?_
      refine k_iload (i := 6) dL_law_353 (rfl : 353 + 2 = 355) rfl ?_
      refine k_icmp_eq (tgt := 360) dL_law_355 (rfl : 355 + 3 = 358) (by decide) (fun _ => ?_) (fun b => absurd e0 b)
      refine k_iload (i := 6) dL_law_360 (rfl : 360 + 2 = 362) rfl ?_
      refine k_if_ne (tgt := 377) dL_law_362 (rfl : 362 + 3 = 365) (by decide) (fun _ => ?_) (fun b => absurd b (by decide))
      refine k_goto (tgt := 2815) dL_law_377 (by decide) ?_
      exact l_go go X2 (by omega) (Nat.le_refl _) (Nat.le_refl _)
    · rw [eo] at hK
      have hm := x2_L_setTree (h2 := h4 (g_X11_setTree x (xs (i + 1)) (xs (i + 2)) 0) y f d) hK rfl
      refine k_aload_n (i := 1) dL_law_284 (rfl : 284 + 1 = 285) rfl rfl ?_
      refine k_aload_n (i := 0) dL_law_285 (rfl : 285 + 1 = 286) rfl rfl ?_
      refine k_iload (i := 5) dL_law_286 (rfl : 286 + 2 = 288) rfl ?_
      refine k_iconst (v := 1) dL_law_288 (rfl : 288 + 1 = 289) (by decide) ?_
      refine k_iadd dL_law_289 (rfl : 289 + 1 = 290) ?_
      refine k_sld (j := i + 1) dL_law_290 (rfl : 290 + 1 = 291) (nI_add i 1) (by omega) (by omega) ?_
      refine k_aload_n (i := 0) dL_law_291 (rfl : 291 + 1 = 292) rfl rfl ?_
      refine k_iload (i := 5) dL_law_292 (rfl : 292 + 2 = 294) rfl ?_
      refine k_iconst (v := 2) dL_law_294 (rfl : 294 + 1 = 295) (by decide) ?_
      refine k_iadd dL_law_295 (rfl : 295 + 1 = 296) ?_
      refine k_sld (j := i + 2) dL_law_296 (rfl : 296 + 1 = 297) (nI_add i 2) (by omega) (by omega) ?_
      refine k_aload_n (i := 0) dL_law_297 (rfl : 297 + 1 = 298) rfl rfl ?_
      refine k_iload (i := 5) dL_law_298 (rfl : 298 + 2 = 300) rfl ?_
      refine k_iconst (v := 3) dL_law_300 (rfl : 300 + 1 = 301) (by decide) ?_
      refine k_iadd dL_law_301 (rfl : 301 + 1 = 302) ?_
      refine k_sld (j := i + 3) dL_law_302 (rfl : 302 + 1 = 303) (nI_add i 3) (by omega) (by omega) ?_
      refine k_if_eq (tgt := 310) dL_law_303 (rfl : 303 + 3 = 306) (by decide) (fun _ => ?_) (fun b => absurd eb b)
      refine k_iconst (v := 0) dL_law_310 (rfl : 310 + 1 = 311) (by decide) ?_
      refine k_aload_n (i := 3) dL_law_311 (rfl : 311 + 1 = 312) rfl rfl ?_
      refine k_callSTd5 cv_L_155 ⟨Nat.le_of_ble_eq_true rfl, Nat.le_of_ble_eq_true rfl⟩ hm dL_law_312 (rfl : 312 + 3 = 315) rfl (lc1 hc hs) rfl ?_
      refine k_istore (i := 6) dL_law_315 (rfl : 315 + 2 = 317) (Nat.le_of_ble_eq_true rfl) ?_
      refine k_ls (ls2 := [.ref 2000, .ref 0, .ref 116, .ref 128, .ref 129, .int (nI i), .int 2, .retAddr 0, .retAddr 0]) rfl ?_
      refine k_aload_n (i := 2) dL_law_317 (rfl : 317 + 1 = 318) rfl rfl ?_
      refine k_aload_n (i := 0) dL_law_318 (rfl : 318 + 1 = 319) rfl rfl ?_
      refine k_iload (i := 5) dL_law_319 (rfl : 319 + 2 = 321) rfl ?_
      refine k_iconst (v := 1) dL_law_321 (rfl : 321 + 1 = 322) (by decide) ?_
      refine k_iadd dL_law_322 (rfl : 322 + 1 = 323) ?_
      refine k_sld (j := i + 1) dL_law_323 (rfl : 323 + 1 = 324) (nI_add i 1) (by omega) (by omega) ?_
      refine k_aload_n (i := 0) dL_law_324 (rfl : 324 + 1 = 325) rfl rfl ?_
      refine k_iload (i := 5) dL_law_325 (rfl : 325 + 2 = 327) rfl ?_
      refine k_iconst (v := 2) dL_law_327 (rfl : 327 + 1 = 328) (by decide) ?_
      refine k_iadd dL_law_328 (rfl : 328 + 1 = 329) ?_
      refine k_sld (j := i + 2) dL_law_329 (rfl : 329 + 1 = 330) (nI_add i 2) (by omega) (by omega) ?_
      refine k_aload_n (i := 0) dL_law_330 (rfl : 330 + 1 = 331) rfl rfl ?_
      refine k_iload (i := 5) dL_law_331 (rfl : 331 + 2 = 333) rfl ?_
      refine k_iconst (v := 3) dL_law_333 (rfl : 333 + 1 = 334) (by decide) ?_
      refine k_iadd dL_law_334 (rfl : 334 + 1 = 335) ?_
      refine k_sld (j := i + 3) dL_law_335 (rfl : 335 + 1 = 336) (nI_add i 3) (by omega) (by omega) ?_
      refine k_if_eq (tgt := 343) dL_law_336 (rfl : 336 + 3 = 339) (by decide) (fun _ => ?_) (fun b => absurd eb b)
      refine k_iconst (v := 0) dL_law_343 (rfl : 343 + 1 = 344) (by decide) ?_
      refine k_callVd3 cv_L_160 ⟨Nat.le_of_ble_eq_true rfl, Nat.le_of_ble_eq_true rfl⟩ (m_X12_setTree (x := y) (a1 := (xs (i + 1))) (a2 := (xs (i + 2))) (a3 := 0) X.ch X.R.mv) dL_law_344 (rfl : 344 + 3 = 347) (Nat.le_of_ble_eq_true rfl) rfl rfl rfl (lc1 hc hs) ?_
      refine k_istore (i := 7) dL_law_347 (rfl : 347 + 2 = 349) (Nat.le_of_ble_eq_true rfl) ?_
      refine k_ls (ls2 := [.ref 2000, .ref 0, .ref 116, .ref 128, .ref 129, .int (nI i), .int 2, .int (f_X12_setTree y (xs (i + 1)) (xs (i + 2)) 0), .retAddr 0]) rfl ?_
      refine k_aload_n (i := 2) dL_law_349 (rfl : 349 + 1 = 350) rfl rfl ?_
      refine k_callVd0 cv_L_161 ⟨Nat.le_of_ble_eq_true rfl, Nat.le_of_ble_eq_true rfl⟩ (m_X12_thrown (x := (g_X12_setTree y (xs (i + 1)) (xs (i + 2)) 0))) dL_law_350 (rfl : 350 + 3 = 353) (Nat.le_of_ble_eq_true rfl) rfl rfl rfl (lc1 hc hs) ?_
      refine k_iload (i := 6) dL_law_353 (rfl : 353 + 2 = 355) rfl ?_
      refine k_icmp_eq (tgt := 360) dL_law_355 (rfl : 355 + 3 = 358) (by decide) (fun _ => ?_) (fun b => absurd e0 b)
      refine k_iload (i := 6) dL_law_360 (rfl : 360 + 2 = 362) rfl ?_
      refine k_if_ne (tgt := 377) dL_law_362 (rfl : 362 + 3 = 365) (by decide) (fun _ => ?_) (fun b => absurd b (by decide))
      refine k_goto (tgt := 2815) dL_law_377 (by decide) ?_
      exact l_go go X2 (by omega) (Nat.le_refl _) (Nat.le_refl _)
  · obtain ⟨X2, alt⟩ := s_setTree X (by omega) (a := (xs (i + 1))) (b := (xs (i + 2))) (c := 1)
    have hK := m_X11_setTree (x := x) (r := kHr y (kJ 1 f, kDb 1 d)) (a1 := (xs (i + 1))) (a2 := (xs (i + 2))) (a3 := 1) X.R.iv X.hi
    rcases alt with ⟨eo, e0⟩ | ⟨eo, e0⟩ | ⟨eo, e0⟩
    · rw [eo] at hK
      have hm := v_L_setTree (h2 := h4 (g_X11_setTree x (xs (i + 1)) (xs (i + 2)) 1) y f d) hK rfl rfl
      rw [h4_f] at hm
      refine k_aload_n (i := 1) dL_law_284 (rfl : 284 + 1 = 285) rfl rfl ?_
      refine k_aload_n (i := 0) dL_law_285 (rfl : 285 + 1 = 286) rfl rfl ?_
      refine k_iload (i := 5) dL_law_286 (rfl : 286 + 2 = 288) rfl ?_
      refine k_iconst (v := 1) dL_law_288 (rfl : 288 + 1 = 289) (by decide) ?_
      refine k_iadd dL_law_289 (rfl : 289 + 1 = 290) ?_
      refine k_sld (j := i + 1) dL_law_290 (rfl : 290 + 1 = 291) (nI_add i 1) (by omega) (by omega) ?_
      refine k_aload_n (i := 0) dL_law_291 (rfl : 291 + 1 = 292) rfl rfl ?_
      refine k_iload (i := 5) dL_law_292 (rfl : 292 + 2 = 294) rfl ?_
      refine k_iconst (v := 2) dL_law_294 (rfl : 294 + 1 = 295) (by decide) ?_
      refine k_iadd dL_law_295 (rfl : 295 + 1 = 296) ?_
      refine k_sld (j := i + 2) dL_law_296 (rfl : 296 + 1 = 297) (nI_add i 2) (by omega) (by omega) ?_
      refine k_aload_n (i := 0) dL_law_297 (rfl : 297 + 1 = 298) rfl rfl ?_
      refine k_iload (i := 5) dL_law_298 (rfl : 298 + 2 = 300) rfl ?_
      refine k_iconst (v := 3) dL_law_300 (rfl : 300 + 1 = 301) (by decide) ?_
      refine k_iadd dL_law_301 (rfl : 301 + 1 = 302) ?_
      refine k_sld (j := i + 3) dL_law_302 (rfl : 302 + 1 = 303) (nI_add i 3) (by omega) (by omega) ?_
      refine k_if_eq (tgt := 310) dL_law_303 (rfl : 303 + 3 = 306) (by decide) (fun b => absurd b eb) (fun _ => ?_)
      refine k_iconst (v := 1) dL_law_306 (rfl : 306 + 1 = 307) (by decide) ?_
      refine k_goto (tgt := 311) dL_law_307 (by decide) ?_
      refine k_aload_n (i := 3) dL_law_311 (rfl : 311 + 1 = 312) rfl rfl ?_
      refine k_callSTd5 cv_L_155 ⟨Nat.le_of_ble_eq_true rfl, Nat.le_of_ble_eq_true rfl⟩ hm dL_law_312 (rfl : 312 + 3 = 315) rfl (lc1 hc hs) rfl ?_
      refine k_istore (i := 6) dL_law_315 (rfl : 315 + 2 = 317) (Nat.le_of_ble_eq_true rfl) ?_
      refine k_ls (ls2 := [.ref 2000, .ref 0, .ref 116, .ref 128, .ref 129, .int (nI i), .int 0, .retAddr 0, .retAddr 0]) rfl ?_
      refine k_aload_n (i := 2) dL_law_317 (rfl : 317 + 1 = 318) rfl rfl ?_
      refine k_aload_n (i := 0) dL_law_318 (rfl : 318 + 1 = 319) rfl rfl ?_
      refine k_iload (i := 5) dL_law_319 (rfl : 319 + 2 = 321) rfl ?_
      refine k_iconst (v := 1) dL_law_321 (rfl : 321 + 1 = 322) (by decide) ?_
      refine k_iadd dL_law_322 (rfl : 322 + 1 = 323) ?_
      refine k_sld (j := i + 1) dL_law_323 (rfl : 323 + 1 = 324) (nI_add i 1) (by omega) (by omega) ?_
      refine k_aload_n (i := 0) dL_law_324 (rfl : 324 + 1 = 325) rfl rfl ?_
      refine k_iload (i := 5) dL_law_325 (rfl : 325 + 2 = 327) rfl ?_
      refine k_iconst (v := 2) dL_law_327 (rfl : 327 + 1 = 328) (by decide) ?_
      refine k_iadd dL_law_328 (rfl : 328 + 1 = 329) ?_
      refine k_sld (j := i + 2) dL_law_329 (rfl : 329 + 1 = 330) (nI_add i 2) (by omega) (by omega) ?_
      refine k_aload_n (i := 0) dL_law_330 (rfl : 330 + 1 = 331) rfl rfl ?_
      refine k_iload (i := 5) dL_law_331 (rfl : 331 + 2 = 333) rfl ?_
      refine k_iconst (v := 3) dL_law_333 (rfl : 333 + 1 = 334) (by decide) ?_
      refine k_iadd dL_law_334 (rfl : 334 + 1 = 335) ?_
      refine k_sld (j := i + 3) dL_law_335 (rfl : 335 + 1 = 336) (nI_add i 3) (by omega) (by omega) ?_
      refine k_if_eq (tgt := 343) dL_law_336 (rfl : 336 + 3 = 339) (by decide) (fun b => absurd b eb) (fun _ => ?_)
      refine k_iconst (v := 1) dL_law_339 (rfl : 339 + 1 = 340) (by decide) ?_
      refine k_goto (tgt := 344) dL_law_340 (by decide) ?_
      refine k_callVd3 cv_L_160 ⟨Nat.le_of_ble_eq_true rfl, Nat.le_of_ble_eq_true rfl⟩ (m_X12_setTree (x := y) (a1 := (xs (i + 1))) (a2 := (xs (i + 2))) (a3 := 1) X.ch X.R.mv) dL_law_344 (rfl : 344 + 3 = 347) (Nat.le_of_ble_eq_true rfl) rfl rfl rfl (lc1 hc hs) ?_
      refine k_istore (i := 7) dL_law_347 (rfl : 347 + 2 = 349) (Nat.le_of_ble_eq_true rfl) ?_
      refine k_ls (ls2 := [.ref 2000, .ref 0, .ref 116, .ref 128, .ref 129, .int (nI i), .int 0, .int (f_X12_setTree y (xs (i + 1)) (xs (i + 2)) 1), .retAddr 0]) rfl ?_
      refine k_aload_n (i := 2) dL_law_349 (rfl : 349 + 1 = 350) rfl rfl ?_
      refine k_callVd0 cv_L_161 ⟨Nat.le_of_ble_eq_true rfl, Nat.le_of_ble_eq_true rfl⟩ (m_X12_thrown (x := (g_X12_setTree y (xs (i + 1)) (xs (i + 2)) 1))) dL_law_350 (rfl : 350 + 3 = 353) (Nat.le_of_ble_eq_true rfl) rfl rfl rfl (lc1 hc hs) ?_
      refine k_iload (i := 6) dL_law_353 (rfl : 353 + 2 = 355) rfl ?_
      refine k_icmp_eq (tgt := 360) dL_law_355 (rfl : 355 + 3 = 358) (by decide) (fun _ => ?_) (fun b => absurd e0 b)
      refine k_iload (i := 6) dL_law_360 (rfl : 360 + 2 = 362) rfl ?_
      refine k_if_ne (tgt := 377) dL_law_362 (rfl : 362 + 3 = 365) (by decide) (fun b => absurd b (by decide)) (fun _ => ?_)
      refine k_aload_n (i := 3) dL_law_365 (rfl : 365 + 1 = 366) rfl rfl ?_
      refine k_iconst (v := 0) dL_law_366 (rfl : 366 + 1 = 367) (by decide) ?_
      refine k_lald dL_law_367 (rfl : 367 + 1 = 368) (Nat.le_of_ble_eq_true rfl) rfl vp_00 ?_
      refine k_iload (i := 7) dL_law_368 (rfl : 368 + 2 = 370) rfl ?_
      refine k_i2l dL_law_370 (rfl : 370 + 1 = 371) ?_
      refine k_lcmp dL_law_371 (rfl : 371 + 1 = 372) ?_
      refine k_if_eq (tgt := 377) dL_law_372 (rfl : 372 + 3 = 375) (by decide) (fun _ => ?_) (fun b => absurd (lg_cmp_0.2 uL0) b)
      refine k_goto (tgt := 2815) dL_law_377 (by decide) ?_
      exact l_go go X2 (by omega) (Nat.le_refl _) (Nat.le_refl _)
    · rw [eo] at hK
      have hm := x1_L_setTree (h2 := h4 (g_X11_setTree x (xs (i + 1)) (xs (i + 2)) 1) y f d) hK rfl
      refine k_aload_n (i := 1) dL_law_284 (rfl : 284 + 1 = 285) rfl rfl ?_
      refine k_aload_n (i := 0) dL_law_285 (rfl : 285 + 1 = 286) rfl rfl ?_
      refine k_iload (i := 5) dL_law_286 (rfl : 286 + 2 = 288) rfl ?_
      refine k_iconst (v := 1) dL_law_288 (rfl : 288 + 1 = 289) (by decide) ?_
      refine k_iadd dL_law_289 (rfl : 289 + 1 = 290) ?_
      refine k_sld (j := i + 1) dL_law_290 (rfl : 290 + 1 = 291) (nI_add i 1) (by omega) (by omega) ?_
      refine k_aload_n (i := 0) dL_law_291 (rfl : 291 + 1 = 292) rfl rfl ?_
      refine k_iload (i := 5) dL_law_292 (rfl : 292 + 2 = 294) rfl ?_
      refine k_iconst (v := 2) dL_law_294 (rfl : 294 + 1 = 295) (by decide) ?_
      refine k_iadd dL_law_295 (rfl : 295 + 1 = 296) ?_
      refine k_sld (j := i + 2) dL_law_296 (rfl : 296 + 1 = 297) (nI_add i 2) (by omega) (by omega) ?_
      refine k_aload_n (i := 0) dL_law_297 (rfl : 297 + 1 = 298) rfl rfl ?_
      refine k_iload (i := 5) dL_law_298 (rfl : 298 + 2 = 300) rfl ?_
      refine k_iconst (v := 3) dL_law_300 (rfl : 300 + 1 = 301) (by decide) ?_
      refine k_iadd dL_law_301 (rfl : 301 + 1 = 302) ?_
      refine k_sld (j := i + 3) dL_law_302 (rfl : 302 + 1 = 303) (nI_add i 3) (by omega) (by omega) ?_
      refine k_if_eq (tgt := 310) dL_law_303 (rfl : 303 + 3 = 306) (by decide) (fun b => absurd b eb) (fun _ => ?_)
      refine k_iconst (v := 1) dL_law_306 (rfl : 306 + 1 = 307) (by decide) ?_
      refine k_goto (tgt := 311) dL_law_307 (by decide) ?_
      refine k_aload_n (i := 3) dL_law_311 (rfl : 311 + 1 = 312) rfl rfl ?_
      refine k_callSTd5 cv_L_155 ⟨Nat.le_of_ble_eq_true rfl, Nat.le_of_ble_eq_true rfl⟩ hm dL_law_312 (rfl : 312 + 3 = 315) rfl (lc1 hc hs) rfl ?_
      refine k_istore (i := 6) dL_law_315 (rfl : 315 + 2 = 317) (Nat.le_of_ble_eq_true rfl) ?_
      refine k_ls (ls2 := [.ref 2000, .ref 0, .ref 116, .ref 128, .ref 129, .int (nI i), .int 1, .retAddr 0, .retAddr 0]) rfl ?_
      refine k_aload_n (i := 2) dL_law_317 (rfl : 317 + 1 = 318) rfl rfl ?_
      refine k_aload_n (i := 0) dL_law_318 (rfl : 318 + 1 = 319) rfl rfl ?_
      refine k_iload (i := 5) dL_law_319 (rfl : 319 + 2 = 321) rfl ?_
      refine k_iconst (v := 1) dL_law_321 (rfl : 321 + 1 = 322) (by decide) ?_
      refine k_iadd dL_law_322 (rfl : 322 + 1 = 323) ?_
      refine k_sld (j := i + 1) dL_law_323 (rfl : 323 + 1 = 324) (nI_add i 1) (by omega) (by omega) ?_
      refine k_aload_n (i := 0) dL_law_324 (rfl : 324 + 1 = 325) rfl rfl ?_
      refine k_iload (i := 5) dL_law_325 (rfl : 325 + 2 = 327) rfl ?_
      refine k_iconst (v := 2) dL_law_327 (rfl : 327 + 1 = 328) (by decide) ?_
      refine k_iadd dL_law_328 (rfl : 328 + 1 = 329) ?_
      refine k_sld (j := i + 2) dL_law_329 (rfl : 329 + 1 = 330) (nI_add i 2) (by omega) (by omega) ?_
      refine k_aload_n (i := 0) dL_law_330 (rfl : 330 + 1 = 331) rfl rfl ?_
      refine k_iload (i := 5) dL_law_331 (rfl : 331 + 2 = 333) rfl ?_
      refine k_iconst (v := 3) dL_law_333 (rfl : 333 + 1 = 334) (by decide) ?_
      refine k_iadd dL_law_334 (rfl : 334 + 1 = 335) ?_
      refine k_sld (j := i + 3) dL_law_335 (rfl : 335 + 1 = 336) (nI_add i 3) (by omega) (by omega) ?_
      refine k_if_eq (tgt := 343) dL_law_336 (rfl : 336 + 3 = 339) (by decide) (fun b => absurd b eb) (fun _ => ?_)
      refine k_iconst (v := 1) dL_law_339 (rfl : 339 + 1 = 340) (by decide) ?_
      refine k_goto (tgt := 344) dL_law_340 (by decide) ?_
      refine k_callVd3 cv_L_160 ⟨Nat.le_of_ble_eq_true rfl, Nat.le_of_ble_eq_true rfl⟩ (m_X12_setTree (x := y) (a1 := (xs (i + 1))) (a2 := (xs (i + 2))) (a3 := 1) X.ch X.R.mv) dL_law_344 (rfl : 344 + 3 = 347) (Nat.le_of_ble_eq_true rfl) rfl rfl rfl (lc1 hc hs) ?_
      refine k_istore (i := 7) dL_law_347 (rfl : 347 + 2 = 349) (Nat.le_of_ble_eq_true rfl) ?_
      refine k_ls (ls2 := [.ref 2000, .ref 0, .ref 116, .ref 128, .ref 129, .int (nI i), .int 1, .int (f_X12_setTree y (xs (i + 1)) (xs (i + 2)) 1), .retAddr 0]) rfl ?_
      refine k_aload_n (i := 2) dL_law_349 (rfl : 349 + 1 = 350) rfl rfl ?_
      refine k_callVd0 cv_L_161 ⟨Nat.le_of_ble_eq_true rfl, Nat.le_of_ble_eq_true rfl⟩ (m_X12_thrown (x := (g_X12_setTree y (xs (i + 1)) (xs (i + 2)) 1))) dL_law_350 (rfl : 350 + 3 = 353) (Nat.le_of_ble_eq_true rfl) rfl rfl rfl (lc1 hc hs) ?_
      refine k_iload (i := 6) dL_law_353 (rfl : 353 + 2 = 355) rfl ?_
      refine k_icmp_eq (tgt := 360) dL_law_355 (rfl : 355 + 3 = 358) (by decide) (fun _ => ?_) (fun b => absurd e0 b)
      refine k_iload (i := 6) dL_law_360 (rfl : 360 + 2 = 362) rfl ?_
      refine k_if_ne (tgt := 377) dL_law_362 (rfl : 362 + 3 = 365) (by decide) (fun _ => ?_) (fun b => absurd b (by decide))
      refine k_goto (tgt := 2815) dL_law_377 (by decide) ?_
      exact l_go go X2 (by omega) (Nat.le_refl _) (Nat.le_refl _)
    · rw [eo] at hK
      have hm := x2_L_setTree (h2 := h4 (g_X11_setTree x (xs (i + 1)) (xs (i + 2)) 1) y f d) hK rfl
      refine k_aload_n (i := 1) dL_law_284 (rfl : 284 + 1 = 285) rfl rfl ?_
      refine k_aload_n (i := 0) dL_law_285 (rfl : 285 + 1 = 286) rfl rfl ?_
      refine k_iload (i := 5) dL_law_286 (rfl : 286 + 2 = 288) rfl ?_
      refine k_iconst (v := 1) dL_law_288 (rfl : 288 + 1 = 289) (by decide) ?_
      refine k_iadd dL_law_289 (rfl : 289 + 1 = 290) ?_
      refine k_sld (j := i + 1) dL_law_290 (rfl : 290 + 1 = 291) (nI_add i 1) (by omega) (by omega) ?_
      refine k_aload_n (i := 0) dL_law_291 (rfl : 291 + 1 = 292) rfl rfl ?_
      refine k_iload (i := 5) dL_law_292 (rfl : 292 + 2 = 294) rfl ?_
      refine k_iconst (v := 2) dL_law_294 (rfl : 294 + 1 = 295) (by decide) ?_
      refine k_iadd dL_law_295 (rfl : 295 + 1 = 296) ?_
      refine k_sld (j := i + 2) dL_law_296 (rfl : 296 + 1 = 297) (nI_add i 2) (by omega) (by omega) ?_
      refine k_aload_n (i := 0) dL_law_297 (rfl : 297 + 1 = 298) rfl rfl ?_
      refine k_iload (i := 5) dL_law_298 (rfl : 298 + 2 = 300) rfl ?_
      refine k_iconst (v := 3) dL_law_300 (rfl : 300 + 1 = 301) (by decide) ?_
      refine k_iadd dL_law_301 (rfl : 301 + 1 = 302) ?_
      refine k_sld (j := i + 3) dL_law_302 (rfl : 302 + 1 = 303) (nI_add i 3) (by omega) (by omega) ?_
      refine k_if_eq (tgt := 310) dL_law_303 (rfl : 303 + 3 = 306) (by decide) (fun b => absurd b eb) (fun _ => ?_)
      refine k_iconst (v := 1) dL_law_306 (rfl : 306 + 1 = 307) (by decide) ?_
      refine k_goto (tgt := 311) dL_law_307 (by decide) ?_
      refine k_aload_n (i := 3) dL_law_311 (rfl : 311 + 1 = 312) rfl rfl ?_
      refine k_callSTd5 cv_L_155 ⟨Nat.le_of_ble_eq_true rfl, Nat.le_of_ble_eq_true rfl⟩ hm dL_law_312 (rfl : 312 + 3 = 315) rfl (lc1 hc hs) rfl ?_
      refine k_istore (i := 6) dL_law_315 (rfl : 315 + 2 = 317) (Nat.le_of_ble_eq_true rfl) ?_
      refine k_ls (ls2 := [.ref 2000, .ref 0, .ref 116, .ref 128, .ref 129, .int (nI i), .int 2, .retAddr 0, .retAddr 0]) rfl ?_
      refine k_aload_n (i := 2) dL_law_317 (rfl : 317 + 1 = 318) rfl rfl ?_
      refine k_aload_n (i := 0) dL_law_318 (rfl : 318 + 1 = 319) rfl rfl ?_
      refine k_iload (i := 5) dL_law_319 (rfl : 319 + 2 = 321) rfl ?_
      refine k_iconst (v := 1) dL_law_321 (rfl : 321 + 1 = 322) (by decide) ?_
      refine k_iadd dL_law_322 (rfl : 322 + 1 = 323) ?_
      refine k_sld (j := i + 1) dL_law_323 (rfl : 323 + 1 = 324) (nI_add i 1) (by omega) (by omega) ?_
      refine k_aload_n (i := 0) dL_law_324 (rfl : 324 + 1 = 325) rfl rfl ?_
      refine k_iload (i := 5) dL_law_325 (rfl : 325 + 2 = 327) rfl ?_
      refine k_iconst (v := 2) dL_law_327 (rfl : 327 + 1 = 328) (by decide) ?_
      refine k_iadd dL_law_328 (rfl : 328 + 1 = 329) ?_
      refine k_sld (j := i + 2) dL_law_329 (rfl : 329 + 1 = 330) (nI_add i 2) (by omega) (by omega) ?_
      refine k_aload_n (i := 0) dL_law_330 (rfl : 330 + 1 = 331) rfl rfl ?_
      refine k_iload (i := 5) dL_law_331 (rfl : 331 + 2 = 333) rfl ?_
      refine k_iconst (v := 3) dL_law_333 (rfl : 333 + 1 = 334) (by decide) ?_
      refine k_iadd dL_law_334 (rfl : 334 + 1 = 335) ?_
      refine k_sld (j := i + 3) dL_law_335 (rfl : 335 + 1 = 336) (nI_add i 3) (by omega) (by omega) ?_
      refine k_if_eq (tgt := 343) dL_law_336 (rfl : 336 + 3 = 339) (by decide) (fun b => absurd b eb) (fun _ => ?_)
      refine k_iconst (v := 1) dL_law_339 (rfl : 339 + 1 = 340) (by decide) ?_
      refine k_goto (tgt := 344) dL_law_340 (by decide) ?_
      refine k_callVd3 cv_L_160 ⟨Nat.le_of_ble_eq_true rfl, Nat.le_of_ble_eq_true rfl⟩ (m_X12_setTree (x := y) (a1 := (xs (i + 1))) (a2 := (xs (i + 2))) (a3 := 1) X.ch X.R.mv) dL_law_344 (rfl : 344 + 3 = 347) (Nat.le_of_ble_eq_true rfl) rfl rfl rfl (lc1 hc hs) ?_
      refine k_istore (i := 7) dL_law_347 (rfl : 347 + 2 = 349) (Nat.le_of_ble_eq_true rfl) ?_
      refine k_ls (ls2 := [.ref 2000, .ref 0, .ref 116, .ref 128, .ref 129, .int (nI i), .int 2, .int (f_X12_setTree y (xs (i + 1)) (xs (i + 2)) 1), .retAddr 0]) rfl ?_
      refine k_aload_n (i := 2) dL_law_349 (rfl : 349 + 1 = 350) rfl rfl ?_
      refine k_callVd0 cv_L_161 ⟨Nat.le_of_ble_eq_true rfl, Nat.le_of_ble_eq_true rfl⟩ (m_X12_thrown (x := (g_X12_setTree y (xs (i + 1)) (xs (i + 2)) 1))) dL_law_350 (rfl : 350 + 3 = 353) (Nat.le_of_ble_eq_true rfl) rfl rfl rfl (lc1 hc hs) ?_
      refine k_iload (i := 6) dL_law_353 (rfl : 353 + 2 = 355) rfl ?_
      refine k_icmp_eq (tgt := 360) dL_law_355 (rfl : 355 + 3 = 358) (by decide) (fun _ => ?_) (fun b => absurd e0 b)
      refine k_iload (i := 6) dL_law_360 (rfl : 360 + 2 = 362) rfl ?_
      refine k_if_ne (tgt := 377) dL_law_362 (rfl : 362 + 3 = 365) (by decide) (fun _ => ?_) (fun b => absurd b (by decide))
      refine k_goto (tgt := 2815) dL_law_377 (by decide) ?_
      exact l_go go X2 (by omega) (Nat.le_refl _) (Nat.le_refl _)
set_option maxRecDepth 100000 in
set_option maxHeartbeats 4000000 in
theorem lcs_1 {nm : String} {tb : List (Nat × Nat × Nat × Nat)} {b L i t cs ss : Nat} {xs : Nat → Int32} {x : kK} {y : kY} {f : Nat → Int64} {d : Nat → UInt64} (X : RX t x y) (ht : t + 11 < 2 ^ 20) (hi : i + 4 ≤ L) (hL : L ≤ 2048) (hc : cs + 1 ≤ 603072) (hs : ss + 6 ≤ 7182442) (go : LG nm tb b L xs i (t + 11) (cs + 1) (ss + 6)) : kEv (kLw nm tb) RW (FL b L xs) false 380 [.ref 2000, .ref 0, .ref 116, .ref 128, .ref 129, .int (nI i), .retAddr 0, .retAddr 0, .retAddr 0] [] (h4 x y f d) 130 cs ss := by
  obtain ⟨X2, alt⟩ := s_setBench X (by omega) (a := (xs (i + 1))) (b := (xs (i + 2)))
  have hK := m_X11_setBench (x := x) (r := kHr y (kJ 1 f, kDb 1 d)) (a1 := (xs (i + 1))) (a2 := (xs (i + 2))) X.R.iv X.hi
  rcases alt with ⟨eo, e0⟩ | ⟨eo, e0⟩ | ⟨eo, e0⟩
  · rw [eo] at hK
    have hm := v_L_setBench (h2 := h4 (g_X11_setBench x (xs (i + 1)) (xs (i + 2))) y f d) hK rfl rfl
    rw [h4_f] at hm
    refine k_aload_n (i := 1) dL_law_380 (rfl : 380 + 1 = 381) rfl rfl ?_
    refine k_aload_n (i := 0) dL_law_381 (rfl : 381 + 1 = 382) rfl rfl ?_
    refine k_iload (i := 5) dL_law_382 (rfl : 382 + 2 = 384) rfl ?_
    refine k_iconst (v := 1) dL_law_384 (rfl : 384 + 1 = 385) (by decide) ?_
    refine k_iadd dL_law_385 (rfl : 385 + 1 = 386) ?_
    refine k_sld (j := i + 1) dL_law_386 (rfl : 386 + 1 = 387) (nI_add i 1) (by omega) (by omega) ?_
    refine k_aload_n (i := 0) dL_law_387 (rfl : 387 + 1 = 388) rfl rfl ?_
    refine k_iload (i := 5) dL_law_388 (rfl : 388 + 2 = 390) rfl ?_
    refine k_iconst (v := 2) dL_law_390 (rfl : 390 + 1 = 391) (by decide) ?_
    refine k_iadd dL_law_391 (rfl : 391 + 1 = 392) ?_
    refine k_sld (j := i + 2) dL_law_392 (rfl : 392 + 1 = 393) (nI_add i 2) (by omega) (by omega) ?_
    refine k_aload_n (i := 3) dL_law_393 (rfl : 393 + 1 = 394) rfl rfl ?_
    refine k_callSTd4 cv_L_164 ⟨Nat.le_of_ble_eq_true rfl, Nat.le_of_ble_eq_true rfl⟩ hm dL_law_394 (rfl : 394 + 3 = 397) rfl (lc1 hc hs) rfl ?_
    refine k_istore (i := 6) dL_law_397 (rfl : 397 + 2 = 399) (Nat.le_of_ble_eq_true rfl) ?_
    refine k_ls (ls2 := [.ref 2000, .ref 0, .ref 116, .ref 128, .ref 129, .int (nI i), .int 0, .retAddr 0, .retAddr 0]) rfl ?_
    refine k_aload_n (i := 2) dL_law_399 (rfl : 399 + 1 = 400) rfl rfl ?_
    refine k_aload_n (i := 0) dL_law_400 (rfl : 400 + 1 = 401) rfl rfl ?_
    refine k_iload (i := 5) dL_law_401 (rfl : 401 + 2 = 403) rfl ?_
    refine k_iconst (v := 1) dL_law_403 (rfl : 403 + 1 = 404) (by decide) ?_
    refine k_iadd dL_law_404 (rfl : 404 + 1 = 405) ?_
    refine k_sld (j := i + 1) dL_law_405 (rfl : 405 + 1 = 406) (nI_add i 1) (by omega) (by omega) ?_
    refine k_aload_n (i := 0) dL_law_406 (rfl : 406 + 1 = 407) rfl rfl ?_
    refine k_iload (i := 5) dL_law_407 (rfl : 407 + 2 = 409) rfl ?_
    refine k_iconst (v := 2) dL_law_409 (rfl : 409 + 1 = 410) (by decide) ?_
    refine k_iadd dL_law_410 (rfl : 410 + 1 = 411) ?_
    refine k_sld (j := i + 2) dL_law_411 (rfl : 411 + 1 = 412) (nI_add i 2) (by omega) (by omega) ?_
    refine k_callVd2 cv_L_167 ⟨Nat.le_of_ble_eq_true rfl, Nat.le_of_ble_eq_true rfl⟩ (m_X12_setBench (x := y) (a1 := (xs (i + 1))) (a2 := (xs (i + 2))) X.ch X.R.mv) dL_law_412 (rfl : 412 + 3 = 415) (Nat.le_of_ble_eq_true rfl) rfl rfl rfl (lc1 hc hs) ?_
    refine k_istore (i := 7) dL_law_415 (rfl : 415 + 2 = 417) (Nat.le_of_ble_eq_true rfl) ?_
    refine k_ls (ls2 := [.ref 2000, .ref 0, .ref 116, .ref 128, .ref 129, .int (nI i), .int 0, .int (f_X12_setBench y (xs (i + 1)) (xs (i + 2))), .retAddr 0]) rfl ?_
    refine k_aload_n (i := 2) dL_law_417 (rfl : 417 + 1 = 418) rfl rfl ?_
    refine k_callVd0 cv_L_161 ⟨Nat.le_of_ble_eq_true rfl, Nat.le_of_ble_eq_true rfl⟩ (m_X12_thrown (x := (g_X12_setBench y (xs (i + 1)) (xs (i + 2))))) dL_law_418 (rfl : 418 + 3 = 421) (Nat.le_of_ble_eq_true rfl) rfl rfl rfl (lc1 hc hs) ?_
    refine k_iload (i := 6) dL_law_421 (rfl : 421 + 2 = 423) rfl ?_
    refine k_icmp_eq (tgt := 428) dL_law_423 (rfl : 423 + 3 = 426) (by decide) (fun _ => ?_) (fun b => absurd e0 b)
    refine k_iload (i := 6) dL_law_428 (rfl : 428 + 2 = 430) rfl ?_
    refine k_if_ne (tgt := 445) dL_law_430 (rfl : 430 + 3 = 433) (by decide) (fun b => absurd b (by decide)) (fun _ => ?_)
    refine k_aload_n (i := 3) dL_law_433 (rfl : 433 + 1 = 434) rfl rfl ?_
    refine k_iconst (v := 0) dL_law_434 (rfl : 434 + 1 = 435) (by decide) ?_
    refine k_lald dL_law_435 (rfl : 435 + 1 = 436) (Nat.le_of_ble_eq_true rfl) rfl vp_00 ?_
    refine k_iload (i := 7) dL_law_436 (rfl : 436 + 2 = 438) rfl ?_
    refine k_i2l dL_law_438 (rfl : 438 + 1 = 439) ?_
    refine k_lcmp dL_law_439 (rfl : 439 + 1 = 440) ?_
    refine k_if_eq (tgt := 445) dL_law_440 (rfl : 440 + 3 = 443) (by decide) (fun _ => ?_) (fun b => absurd (lg_cmp_0.2 uL0) b)
    refine k_goto (tgt := 2815) dL_law_445 (by decide) ?_
    exact l_go go X2 (by omega) (Nat.le_refl _) (Nat.le_refl _)
  · rw [eo] at hK
    have hm := x1_L_setBench (h2 := h4 (g_X11_setBench x (xs (i + 1)) (xs (i + 2))) y f d) hK rfl
    refine k_aload_n (i := 1) dL_law_380 (rfl : 380 + 1 = 381) rfl rfl ?_
    refine k_aload_n (i := 0) dL_law_381 (rfl : 381 + 1 = 382) rfl rfl ?_
    refine k_iload (i := 5) dL_law_382 (rfl : 382 + 2 = 384) rfl ?_
    refine k_iconst (v := 1) dL_law_384 (rfl : 384 + 1 = 385) (by decide) ?_
    refine k_iadd dL_law_385 (rfl : 385 + 1 = 386) ?_
    refine k_sld (j := i + 1) dL_law_386 (rfl : 386 + 1 = 387) (nI_add i 1) (by omega) (by omega) ?_
    refine k_aload_n (i := 0) dL_law_387 (rfl : 387 + 1 = 388) rfl rfl ?_
    refine k_iload (i := 5) dL_law_388 (rfl : 388 + 2 = 390) rfl ?_
    refine k_iconst (v := 2) dL_law_390 (rfl : 390 + 1 = 391) (by decide) ?_
    refine k_iadd dL_law_391 (rfl : 391 + 1 = 392) ?_
    refine k_sld (j := i + 2) dL_law_392 (rfl : 392 + 1 = 393) (nI_add i 2) (by omega) (by omega) ?_
    refine k_aload_n (i := 3) dL_law_393 (rfl : 393 + 1 = 394) rfl rfl ?_
    refine k_callSTd4 cv_L_164 ⟨Nat.le_of_ble_eq_true rfl, Nat.le_of_ble_eq_true rfl⟩ hm dL_law_394 (rfl : 394 + 3 = 397) rfl (lc1 hc hs) rfl ?_
    refine k_istore (i := 6) dL_law_397 (rfl : 397 + 2 = 399) (Nat.le_of_ble_eq_true rfl) ?_
    refine k_ls (ls2 := [.ref 2000, .ref 0, .ref 116, .ref 128, .ref 129, .int (nI i), .int 1, .retAddr 0, .retAddr 0]) rfl ?_
    refine k_aload_n (i := 2) dL_law_399 (rfl : 399 + 1 = 400) rfl rfl ?_
    refine k_aload_n (i := 0) dL_law_400 (rfl : 400 + 1 = 401) rfl rfl ?_
    refine k_iload (i := 5) dL_law_401 (rfl : 401 + 2 = 403) rfl ?_
    refine k_iconst (v := 1) dL_law_403 (rfl : 403 + 1 = 404) (by decide) ?_
    refine k_iadd dL_law_404 (rfl : 404 + 1 = 405) ?_
    refine k_sld (j := i + 1) dL_law_405 (rfl : 405 + 1 = 406) (nI_add i 1) (by omega) (by omega) ?_
    refine k_aload_n (i := 0) dL_law_406 (rfl : 406 + 1 = 407) rfl rfl ?_
    refine k_iload (i := 5) dL_law_407 (rfl : 407 + 2 = 409) rfl ?_
    refine k_iconst (v := 2) dL_law_409 (rfl : 409 + 1 = 410) (by decide) ?_
    refine k_iadd dL_law_410 (rfl : 410 + 1 = 411) ?_
    refine k_sld (j := i + 2) dL_law_411 (rfl : 411 + 1 = 412) (nI_add i 2) (by omega) (by omega) ?_
    refine k_callVd2 cv_L_167 ⟨Nat.le_of_ble_eq_true rfl, Nat.le_of_ble_eq_true rfl⟩ (m_X12_setBench (x := y) (a1 := (xs (i + 1))) (a2 := (xs (i + 2))) X.ch X.R.mv) dL_law_412 (rfl : 412 + 3 = 415) (Nat.le_of_ble_eq_true rfl) rfl rfl rfl (lc1 hc hs) ?_
    refine k_istore (i := 7) dL_law_415 (rfl : 415 + 2 = 417) (Nat.le_of_ble_eq_true rfl) ?_
    refine k_ls (ls2 := [.ref 2000, .ref 0, .ref 116, .ref 128, .ref 129, .int (nI i), .int 1, .int (f_X12_setBench y (xs (i + 1)) (xs (i + 2))), .retAddr 0]) rfl ?_
    refine k_aload_n (i := 2) dL_law_417 (rfl : 417 + 1 = 418) rfl rfl ?_
    refine k_callVd0 cv_L_161 ⟨Nat.le_of_ble_eq_true rfl, Nat.le_of_ble_eq_true rfl⟩ (m_X12_thrown (x := (g_X12_setBench y (xs (i + 1)) (xs (i + 2))))) dL_law_418 (rfl : 418 + 3 = 421) (Nat.le_of_ble_eq_true rfl) rfl rfl rfl (lc1 hc hs) ?_
    refine k_iload (i := 6) dL_law_421 (rfl : 421 + 2 = 423) rfl ?_
    refine k_icmp_eq (tgt := 428) dL_law_423 (rfl : 423 + 3 = 426) (by decide) (fun _ => ?_) (fun b => absurd e0 b)
    refine k_iload (i := 6) dL_law_428 (rfl : 428 + 2 = 430) rfl ?_
    refine k_if_ne (tgt := 445) dL_law_430 (rfl : 430 + 3 = 433) (by decide) (fun _ => ?_) (fun b => absurd b (by decide))
    refine k_goto (tgt := 2815) dL_law_445 (by decide) ?_
    exact l_go go X2 (by omega) (Nat.le_refl _) (Nat.le_refl _)
  · rw [eo] at hK
    have hm := x2_L_setBench (h2 := h4 (g_X11_setBench x (xs (i + 1)) (xs (i + 2))) y f d) hK rfl
    refine k_aload_n (i := 1) dL_law_380 (rfl : 380 + 1 = 381) rfl rfl ?_
    refine k_aload_n (i := 0) dL_law_381 (rfl : 381 + 1 = 382) rfl rfl ?_
    refine k_iload (i := 5) dL_law_382 (rfl : 382 + 2 = 384) rfl ?_
    refine k_iconst (v := 1) dL_law_384 (rfl : 384 + 1 = 385) (by decide) ?_
    refine k_iadd dL_law_385 (rfl : 385 + 1 = 386) ?_
    refine k_sld (j := i + 1) dL_law_386 (rfl : 386 + 1 = 387) (nI_add i 1) (by omega) (by omega) ?_
    refine k_aload_n (i := 0) dL_law_387 (rfl : 387 + 1 = 388) rfl rfl ?_
    refine k_iload (i := 5) dL_law_388 (rfl : 388 + 2 = 390) rfl ?_
    refine k_iconst (v := 2) dL_law_390 (rfl : 390 + 1 = 391) (by decide) ?_
    refine k_iadd dL_law_391 (rfl : 391 + 1 = 392) ?_
    refine k_sld (j := i + 2) dL_law_392 (rfl : 392 + 1 = 393) (nI_add i 2) (by omega) (by omega) ?_
    refine k_aload_n (i := 3) dL_law_393 (rfl : 393 + 1 = 394) rfl rfl ?_
    refine k_callSTd4 cv_L_164 ⟨Nat.le_of_ble_eq_true rfl, Nat.le_of_ble_eq_true rfl⟩ hm dL_law_394 (rfl : 394 + 3 = 397) rfl (lc1 hc hs) rfl ?_
    refine k_istore (i := 6) dL_law_397 (rfl : 397 + 2 = 399) (Nat.le_of_ble_eq_true rfl) ?_
    refine k_ls (ls2 := [.ref 2000, .ref 0, .ref 116, .ref 128, .ref 129, .int (nI i), .int 2, .retAddr 0, .retAddr 0]) rfl ?_
    refine k_aload_n (i := 2) dL_law_399 (rfl : 399 + 1 = 400) rfl rfl ?_
    refine k_aload_n (i := 0) dL_law_400 (rfl : 400 + 1 = 401) rfl rfl ?_
    refine k_iload (i := 5) dL_law_401 (rfl : 401 + 2 = 403) rfl ?_
    refine k_iconst (v := 1) dL_law_403 (rfl : 403 + 1 = 404) (by decide) ?_
    refine k_iadd dL_law_404 (rfl : 404 + 1 = 405) ?_
    refine k_sld (j := i + 1) dL_law_405 (rfl : 405 + 1 = 406) (nI_add i 1) (by omega) (by omega) ?_
    refine k_aload_n (i := 0) dL_law_406 (rfl : 406 + 1 = 407) rfl rfl ?_
    refine k_iload (i := 5) dL_law_407 (rfl : 407 + 2 = 409) rfl ?_
    refine k_iconst (v := 2) dL_law_409 (rfl : 409 + 1 = 410) (by decide) ?_
    refine k_iadd dL_law_410 (rfl : 410 + 1 = 411) ?_
    refine k_sld (j := i + 2) dL_law_411 (rfl : 411 + 1 = 412) (nI_add i 2) (by omega) (by omega) ?_
    refine k_callVd2 cv_L_167 ⟨Nat.le_of_ble_eq_true rfl, Nat.le_of_ble_eq_true rfl⟩ (m_X12_setBench (x := y) (a1 := (xs (i + 1))) (a2 := (xs (i + 2))) X.ch X.R.mv) dL_law_412 (rfl : 412 + 3 = 415) (Nat.le_of_ble_eq_true rfl) rfl rfl rfl (lc1 hc hs) ?_
    refine k_istore (i := 7) dL_law_415 (rfl : 415 + 2 = 417) (Nat.le_of_ble_eq_true rfl) ?_
    refine k_ls (ls2 := [.ref 2000, .ref 0, .ref 116, .ref 128, .ref 129, .int (nI i), .int 2, .int (f_X12_setBench y (xs (i + 1)) (xs (i + 2))), .retAddr 0]) rfl ?_
    refine k_aload_n (i := 2) dL_law_417 (rfl : 417 + 1 = 418) rfl rfl ?_
    refine k_callVd0 cv_L_161 ⟨Nat.le_of_ble_eq_true rfl, Nat.le_of_ble_eq_true rfl⟩ (m_X12_thrown (x := (g_X12_setBench y (xs (i + 1)) (xs (i + 2))))) dL_law_418 (rfl : 418 + 3 = 421) (Nat.le_of_ble_eq_true rfl) rfl rfl rfl (lc1 hc hs) ?_
    refine k_iload (i := 6) dL_law_421 (rfl : 421 + 2 = 423) rfl ?_
    refine k_icmp_eq (tgt := 428) dL_law_423 (rfl : 423 + 3 = 426) (by decide) (fun _ => ?_) (fun b => absurd e0 b)
    refine k_iload (i := 6) dL_law_428 (rfl : 428 + 2 = 430) rfl ?_
    refine k_if_ne (tgt := 445) dL_law_430 (rfl : 430 + 3 = 433) (by decide) (fun _ => ?_) (fun b => absurd b (by decide))
    refine k_goto (tgt := 2815) dL_law_445 (by decide) ?_
    exact l_go go X2 (by omega) (Nat.le_refl _) (Nat.le_refl _)
set_option maxRecDepth 100000 in
set_option maxHeartbeats 4000000 in
theorem lcs_2 {nm : String} {tb : List (Nat × Nat × Nat × Nat)} {b L i t cs ss : Nat} {xs : Nat → Int32} {x : kK} {y : kY} {f : Nat → Int64} {d : Nat → UInt64} (X : RX t x y) (ht : t + 11 < 2 ^ 20) (hi : i + 4 ≤ L) (hL : L ≤ 2048) (hc : cs + 1 ≤ 603072) (hs : ss + 6 ≤ 7182442) (go : LG nm tb b L xs i (t + 11) (cs + 1) (ss + 6)) : kEv (kLw nm tb) RW (FL b L xs) false 448 [.ref 2000, .ref 0, .ref 116, .ref 128, .ref 129, .int (nI i), .retAddr 0, .retAddr 0, .retAddr 0] [] (h4 x y f d) 130 cs ss := by
  obtain ⟨X2, qe, -⟩ := q_treeBits X
  refine k_aload_n (i := 1) dL_law_448 (rfl : 448 + 1 = 449) rfl rfl ?_
  refine k_callVd0 cv_L_168 ⟨Nat.le_of_ble_eq_true rfl, Nat.le_of_ble_eq_true rfl⟩ (m_X11_treeBits (x := x)) dL_law_449 (rfl : 449 + 3 = 452) (Nat.le_of_ble_eq_true rfl) rfl rfl rfl (lc0 hc hs) ?_
  refine k_aload_n (i := 2) dL_law_452 (rfl : 452 + 1 = 453) rfl rfl ?_
  refine k_callVd0 cv_L_172 ⟨Nat.le_of_ble_eq_true rfl, Nat.le_of_ble_eq_true rfl⟩ (m_X12_treeBits (x := y)) dL_law_453 (rfl : 453 + 3 = 456) (Nat.le_of_ble_eq_true rfl) rfl rfl rfl (lc0 hc hs) ?_
  refine k_lcmp dL_law_456 (rfl : 456 + 1 = 457) ?_
  refine k_if_eq (tgt := 2815) dL_law_457 (rfl : 457 + 3 = 460) (by decide) (fun _ => ?_) (fun b => absurd (lg_cmp_0.2 qe) b)
  exact l_go go X2 (by omega) (show cs ≤ cs + 1 by omega) (show ss ≤ ss + 6 by omega)
set_option maxRecDepth 100000 in
set_option maxHeartbeats 4000000 in
theorem lcs_3 {nm : String} {tb : List (Nat × Nat × Nat × Nat)} {b L i t cs ss : Nat} {xs : Nat → Int32} {x : kK} {y : kY} {f : Nat → Int64} {d : Nat → UInt64} (X : RX t x y) (ht : t + 11 < 2 ^ 20) (hi : i + 4 ≤ L) (hL : L ≤ 2048) (hc : cs + 1 ≤ 603072) (hs : ss + 6 ≤ 7182442) (go : LG nm tb b L xs i (t + 11) (cs + 1) (ss + 6)) : kEv (kLw nm tb) RW (FL b L xs) false 462 [.ref 2000, .ref 0, .ref 116, .ref 128, .ref 129, .int (nI i), .retAddr 0, .retAddr 0, .retAddr 0] [] (h4 x y f d) 130 cs ss := by
  obtain ⟨X2, qe, -⟩ := q_turnedTrees X
  refine k_aload_n (i := 1) dL_law_462 (rfl : 462 + 1 = 463) rfl rfl ?_
  refine k_callVd0 cv_L_173 ⟨Nat.le_of_ble_eq_true rfl, Nat.le_of_ble_eq_true rfl⟩ (m_X11_turnedTrees (x := x)) dL_law_463 (rfl : 463 + 3 = 466) (Nat.le_of_ble_eq_true rfl) rfl rfl rfl (lc0 hc hs) ?_
  refine k_aload_n (i := 2) dL_law_466 (rfl : 466 + 1 = 467) rfl rfl ?_
  refine k_callVd0 cv_L_176 ⟨Nat.le_of_ble_eq_true rfl, Nat.le_of_ble_eq_true rfl⟩ (m_X12_turnedTrees (x := y)) dL_law_467 (rfl : 467 + 3 = 470) (Nat.le_of_ble_eq_true rfl) rfl rfl rfl (lc0 hc hs) ?_
  refine k_lcmp dL_law_470 (rfl : 470 + 1 = 471) ?_
  refine k_if_eq (tgt := 2815) dL_law_471 (rfl : 471 + 3 = 474) (by decide) (fun _ => ?_) (fun b => absurd (lg_cmp_0.2 qe) b)
  exact l_go go X2 (by omega) (show cs ≤ cs + 1 by omega) (show ss ≤ ss + 6 by omega)
set_option maxRecDepth 100000 in
set_option maxHeartbeats 4000000 in
theorem lcs_4 {nm : String} {tb : List (Nat × Nat × Nat × Nat)} {b L i t cs ss : Nat} {xs : Nat → Int32} {x : kK} {y : kY} {f : Nat → Int64} {d : Nat → UInt64} (X : RX t x y) (ht : t + 11 < 2 ^ 20) (hi : i + 4 ≤ L) (hL : L ≤ 2048) (hc : cs + 1 ≤ 603072) (hs : ss + 6 ≤ 7182442) (go : LG nm tb b L xs i (t + 11) (cs + 1) (ss + 6)) : kEv (kLw nm tb) RW (FL b L xs) false 476 [.ref 2000, .ref 0, .ref 116, .ref 128, .ref 129, .int (nI i), .retAddr 0, .retAddr 0, .retAddr 0] [] (h4 x y f d) 130 cs ss := by
  obtain ⟨X2, qe, -⟩ := q_turnedTreesByCells X
  refine k_aload_n (i := 1) dL_law_476 (rfl : 476 + 1 = 477) rfl rfl ?_
  refine k_callVd0 cv_L_177 ⟨Nat.le_of_ble_eq_true rfl, Nat.le_of_ble_eq_true rfl⟩ (m_X11_turnedTreesByCells (x := x)) dL_law_477 (rfl : 477 + 3 = 480) (Nat.le_of_ble_eq_true rfl) rfl rfl rfl (lc0 hc hs) ?_
  refine k_aload_n (i := 2) dL_law_480 (rfl : 480 + 1 = 481) rfl rfl ?_
  refine k_callVd0 cv_L_180 ⟨Nat.le_of_ble_eq_true rfl, Nat.le_of_ble_eq_true rfl⟩ (m_X12_turnedTreesByCells (x := y)) dL_law_481 (rfl : 481 + 3 = 484) (Nat.le_of_ble_eq_true rfl) rfl rfl rfl (lc0 hc hs) ?_
  refine k_lcmp dL_law_484 (rfl : 484 + 1 = 485) ?_
  refine k_if_eq (tgt := 2815) dL_law_485 (rfl : 485 + 3 = 488) (by decide) (fun _ => ?_) (fun b => absurd (lg_cmp_0.2 qe) b)
  exact l_go go X2 (by omega) (show cs ≤ cs + 1 by omega) (show ss ≤ ss + 6 by omega)
set_option maxRecDepth 100000 in
set_option maxHeartbeats 4000000 in
theorem lcs_5 {nm : String} {tb : List (Nat × Nat × Nat × Nat)} {b L i t cs ss : Nat} {xs : Nat → Int32} {x : kK} {y : kY} {f : Nat → Int64} {d : Nat → UInt64} (X : RX t x y) (ht : t + 11 < 2 ^ 20) (hi : i + 4 ≤ L) (hL : L ≤ 2048) (hc : cs + 1 ≤ 603072) (hs : ss + 6 ≤ 7182442) (go : LG nm tb b L xs i (t + 11) (cs + 1) (ss + 6)) : kEv (kLw nm tb) RW (FL b L xs) false 490 [.ref 2000, .ref 0, .ref 116, .ref 128, .ref 129, .int (nI i), .retAddr 0, .retAddr 0, .retAddr 0] [] (h4 x y f d) 130 cs ss := by
  obtain ⟨X2, alt⟩ := q_reach X (a := (xs (i + 1))) (b := (xs (i + 2)))
  have hK := m_X11_reach (x := x) (r := kHr y (kJ 1 f, kDb 1 d)) (a1 := (xs (i + 1))) (a2 := (xs (i + 2)))
  rcases alt with ⟨eo, e0⟩ | ⟨eo, e0⟩
  · rw [eo] at hK
    have hm := v_L_reach (h2 := h4 x y f d) hK rfl rfl
    rw [h4_f] at hm
    refine k_aload_n (i := 1) dL_law_490 (rfl : 490 + 1 = 491) rfl rfl ?_
    refine k_aload_n (i := 0) dL_law_491 (rfl : 491 + 1 = 492) rfl rfl ?_
    refine k_iload (i := 5) dL_law_492 (rfl : 492 + 2 = 494) rfl ?_
    refine k_iconst (v := 1) dL_law_494 (rfl : 494 + 1 = 495) (by decide) ?_
    refine k_iadd dL_law_495 (rfl : 495 + 1 = 496) ?_
    refine k_sld (j := i + 1) dL_law_496 (rfl : 496 + 1 = 497) (nI_add i 1) (by omega) (by omega) ?_
    refine k_aload_n (i := 0) dL_law_497 (rfl : 497 + 1 = 498) rfl rfl ?_
    refine k_iload (i := 5) dL_law_498 (rfl : 498 + 2 = 500) rfl ?_
    refine k_iconst (v := 2) dL_law_500 (rfl : 500 + 1 = 501) (by decide) ?_
    refine k_iadd dL_law_501 (rfl : 501 + 1 = 502) ?_
    refine k_sld (j := i + 2) dL_law_502 (rfl : 502 + 1 = 503) (nI_add i 2) (by omega) (by omega) ?_
    refine k_aload_n (i := 3) dL_law_503 (rfl : 503 + 1 = 504) rfl rfl ?_
    refine k_callSTd4 cv_L_181 ⟨Nat.le_of_ble_eq_true rfl, Nat.le_of_ble_eq_true rfl⟩ hm dL_law_504 (rfl : 504 + 3 = 507) rfl (lc1 hc hs) rfl ?_
    refine k_istore (i := 6) dL_law_507 (rfl : 507 + 2 = 509) (Nat.le_of_ble_eq_true rfl) ?_
    refine k_ls (ls2 := [.ref 2000, .ref 0, .ref 116, .ref 128, .ref 129, .int (nI i), .int 0, .retAddr 0, .retAddr 0]) rfl ?_
    refine k_aload_n (i := 2) dL_law_509 (rfl : 509 + 1 = 510) rfl rfl ?_
    refine k_aload_n (i := 0) dL_law_510 (rfl : 510 + 1 = 511) rfl rfl ?_
    refine k_iload (i := 5) dL_law_511 (rfl : 511 + 2 = 513) rfl ?_
    refine k_iconst (v := 1) dL_law_513 (rfl : 513 + 1 = 514) (by decide) ?_
    refine k_iadd dL_law_514 (rfl : 514 + 1 = 515) ?_
    refine k_sld (j := i + 1) dL_law_515 (rfl : 515 + 1 = 516) (nI_add i 1) (by omega) (by omega) ?_
    refine k_aload_n (i := 0) dL_law_516 (rfl : 516 + 1 = 517) rfl rfl ?_
    refine k_iload (i := 5) dL_law_517 (rfl : 517 + 2 = 519) rfl ?_
    refine k_iconst (v := 2) dL_law_519 (rfl : 519 + 1 = 520) (by decide) ?_
    refine k_iadd dL_law_520 (rfl : 520 + 1 = 521) ?_
    refine k_sld (j := i + 2) dL_law_521 (rfl : 521 + 1 = 522) (nI_add i 2) (by omega) (by omega) ?_
    refine k_callVd2 cv_L_183 ⟨Nat.le_of_ble_eq_true rfl, Nat.le_of_ble_eq_true rfl⟩ (m_X12_reach (x := y) (a1 := (xs (i + 1))) (a2 := (xs (i + 2)))) dL_law_522 (rfl : 522 + 3 = 525) (Nat.le_of_ble_eq_true rfl) rfl rfl rfl (lc1 hc hs) ?_
    refine k_lstore (i := 7) dL_law_525 (rfl : 525 + 2 = 527) (Nat.le_of_ble_eq_true rfl) ?_
    refine k_ls (ls2 := [.ref 2000, .ref 0, .ref 116, .ref 128, .ref 129, .int (nI i), .int 0, .long (f_X12_reach y (xs (i + 1)) (xs (i + 2))), .retAddr 0]) rfl ?_
    refine k_aload_n (i := 2) dL_law_527 (rfl : 527 + 1 = 528) rfl rfl ?_
    refine k_callVd0 cv_L_161 ⟨Nat.le_of_ble_eq_true rfl, Nat.le_of_ble_eq_true rfl⟩ (m_X12_thrown (x := (g_X12_reach y (xs (i + 1)) (xs (i + 2))))) dL_law_528 (rfl : 528 + 3 = 531) (Nat.le_of_ble_eq_true rfl) rfl rfl rfl (lc1 hc hs) ?_
    refine k_iload (i := 6) dL_law_531 (rfl : 531 + 2 = 533) rfl ?_
    refine k_icmp_eq (tgt := 538) dL_law_533 (rfl : 533 + 3 = 536) (by decide) (fun _ => ?_) (fun b => absurd e0 b)
    refine k_iload (i := 6) dL_law_538 (rfl : 538 + 2 = 540) rfl ?_
    refine k_if_ne (tgt := 554) dL_law_540 (rfl : 540 + 3 = 543) (by decide) (fun b => absurd b (by decide)) (fun _ => ?_)
    refine k_aload_n (i := 3) dL_law_543 (rfl : 543 + 1 = 544) rfl rfl ?_
    refine k_iconst (v := 0) dL_law_544 (rfl : 544 + 1 = 545) (by decide) ?_
    refine k_lald dL_law_545 (rfl : 545 + 1 = 546) (Nat.le_of_ble_eq_true rfl) rfl vp_00 ?_
    refine k_lload (i := 7) dL_law_546 (rfl : 546 + 2 = 548) rfl ?_
    refine k_lcmp dL_law_548 (rfl : 548 + 1 = 549) ?_
    refine k_if_eq (tgt := 554) dL_law_549 (rfl : 549 + 3 = 552) (by decide) (fun _ => ?_) (fun b => absurd (lg_cmp_0.2 uL0) b)
    refine k_goto (tgt := 2815) dL_law_554 (by decide) ?_
    exact l_go go X2 (by omega) (Nat.le_refl _) (Nat.le_refl _)
  · rw [eo] at hK
    have hm := x1_L_reach (h2 := h4 x y f d) hK rfl
    refine k_aload_n (i := 1) dL_law_490 (rfl : 490 + 1 = 491) rfl rfl ?_
    refine k_aload_n (i := 0) dL_law_491 (rfl : 491 + 1 = 492) rfl rfl ?_
    refine k_iload (i := 5) dL_law_492 (rfl : 492 + 2 = 494) rfl ?_
    refine k_iconst (v := 1) dL_law_494 (rfl : 494 + 1 = 495) (by decide) ?_
    refine k_iadd dL_law_495 (rfl : 495 + 1 = 496) ?_
    refine k_sld (j := i + 1) dL_law_496 (rfl : 496 + 1 = 497) (nI_add i 1) (by omega) (by omega) ?_
    refine k_aload_n (i := 0) dL_law_497 (rfl : 497 + 1 = 498) rfl rfl ?_
    refine k_iload (i := 5) dL_law_498 (rfl : 498 + 2 = 500) rfl ?_
    refine k_iconst (v := 2) dL_law_500 (rfl : 500 + 1 = 501) (by decide) ?_
    refine k_iadd dL_law_501 (rfl : 501 + 1 = 502) ?_
    refine k_sld (j := i + 2) dL_law_502 (rfl : 502 + 1 = 503) (nI_add i 2) (by omega) (by omega) ?_
    refine k_aload_n (i := 3) dL_law_503 (rfl : 503 + 1 = 504) rfl rfl ?_
    refine k_callSTd4 cv_L_181 ⟨Nat.le_of_ble_eq_true rfl, Nat.le_of_ble_eq_true rfl⟩ hm dL_law_504 (rfl : 504 + 3 = 507) rfl (lc1 hc hs) rfl ?_
    refine k_istore (i := 6) dL_law_507 (rfl : 507 + 2 = 509) (Nat.le_of_ble_eq_true rfl) ?_
    refine k_ls (ls2 := [.ref 2000, .ref 0, .ref 116, .ref 128, .ref 129, .int (nI i), .int 1, .retAddr 0, .retAddr 0]) rfl ?_
    refine k_aload_n (i := 2) dL_law_509 (rfl : 509 + 1 = 510) rfl rfl ?_
    refine k_aload_n (i := 0) dL_law_510 (rfl : 510 + 1 = 511) rfl rfl ?_
    refine k_iload (i := 5) dL_law_511 (rfl : 511 + 2 = 513) rfl ?_
    refine k_iconst (v := 1) dL_law_513 (rfl : 513 + 1 = 514) (by decide) ?_
    refine k_iadd dL_law_514 (rfl : 514 + 1 = 515) ?_
    refine k_sld (j := i + 1) dL_law_515 (rfl : 515 + 1 = 516) (nI_add i 1) (by omega) (by omega) ?_
    refine k_aload_n (i := 0) dL_law_516 (rfl : 516 + 1 = 517) rfl rfl ?_
    refine k_iload (i := 5) dL_law_517 (rfl : 517 + 2 = 519) rfl ?_
    refine k_iconst (v := 2) dL_law_519 (rfl : 519 + 1 = 520) (by decide) ?_
    refine k_iadd dL_law_520 (rfl : 520 + 1 = 521) ?_
    refine k_sld (j := i + 2) dL_law_521 (rfl : 521 + 1 = 522) (nI_add i 2) (by omega) (by omega) ?_
    refine k_callVd2 cv_L_183 ⟨Nat.le_of_ble_eq_true rfl, Nat.le_of_ble_eq_true rfl⟩ (m_X12_reach (x := y) (a1 := (xs (i + 1))) (a2 := (xs (i + 2)))) dL_law_522 (rfl : 522 + 3 = 525) (Nat.le_of_ble_eq_true rfl) rfl rfl rfl (lc1 hc hs) ?_
    refine k_lstore (i := 7) dL_law_525 (rfl : 525 + 2 = 527) (Nat.le_of_ble_eq_true rfl) ?_
    refine k_ls (ls2 := [.ref 2000, .ref 0, .ref 116, .ref 128, .ref 129, .int (nI i), .int 1, .long (f_X12_reach y (xs (i + 1)) (xs (i + 2))), .retAddr 0]) rfl ?_
    refine k_aload_n (i := 2) dL_law_527 (rfl : 527 + 1 = 528) rfl rfl ?_
    refine k_callVd0 cv_L_161 ⟨Nat.le_of_ble_eq_true rfl, Nat.le_of_ble_eq_true rfl⟩ (m_X12_thrown (x := (g_X12_reach y (xs (i + 1)) (xs (i + 2))))) dL_law_528 (rfl : 528 + 3 = 531) (Nat.le_of_ble_eq_true rfl) rfl rfl rfl (lc1 hc hs) ?_
    refine k_iload (i := 6) dL_law_531 (rfl : 531 + 2 = 533) rfl ?_
    refine k_icmp_eq (tgt := 538) dL_law_533 (rfl : 533 + 3 = 536) (by decide) (fun _ => ?_) (fun b => absurd e0 b)
    refine k_iload (i := 6) dL_law_538 (rfl : 538 + 2 = 540) rfl ?_
    refine k_if_ne (tgt := 554) dL_law_540 (rfl : 540 + 3 = 543) (by decide) (fun _ => ?_) (fun b => absurd b (by decide))
    refine k_goto (tgt := 2815) dL_law_554 (by decide) ?_
    exact l_go go X2 (by omega) (Nat.le_refl _) (Nat.le_refl _)
set_option maxRecDepth 100000 in
set_option maxHeartbeats 4000000 in
theorem lcs_6 {nm : String} {tb : List (Nat × Nat × Nat × Nat)} {b L i t cs ss : Nat} {xs : Nat → Int32} {x : kK} {y : kY} {f : Nat → Int64} {d : Nat → UInt64} (X : RX t x y) (ht : t + 11 < 2 ^ 20) (hi : i + 4 ≤ L) (hL : L ≤ 2048) (hc : cs + 1 ≤ 603072) (hs : ss + 6 ≤ 7182442) (go : LG nm tb b L xs i (t + 11) (cs + 1) (ss + 6)) : kEv (kLw nm tb) RW (FL b L xs) false 557 [.ref 2000, .ref 0, .ref 116, .ref 128, .ref 129, .int (nI i), .retAddr 0, .retAddr 0, .retAddr 0] [] (h4 x y f d) 130 cs ss := by
  obtain ⟨X2, alt⟩ := q_reachByQueue X (a := (xs (i + 1))) (b := (xs (i + 2)))
  have hK := m_X11_reachByQueue (x := x) (r := kHr y (kJ 1 f, kDb 1 d)) (a1 := (xs (i + 1))) (a2 := (xs (i + 2)))
  rcases alt with ⟨eo, e0⟩ | ⟨eo, e0⟩
  · rw [eo] at hK
    have hm := v_L_reachByQueue (h2 := h4 (g_X11_reachByQueue x (xs (i + 1)) (xs (i + 2))) y f d) hK rfl rfl
    rw [h4_f] at hm
    refine k_aload_n (i := 1) dL_law_557 (rfl : 557 + 1 = 558) rfl rfl ?_
    refine k_aload_n (i := 0) dL_law_558 (rfl : 558 + 1 = 559) rfl rfl ?_
    refine k_iload (i := 5) dL_law_559 (rfl : 559 + 2 = 561) rfl ?_
    refine k_iconst (v := 1) dL_law_561 (rfl : 561 + 1 = 562) (by decide) ?_
    refine k_iadd dL_law_562 (rfl : 562 + 1 = 563) ?_
    refine k_sld (j := i + 1) dL_law_563 (rfl : 563 + 1 = 564) (nI_add i 1) (by omega) (by omega) ?_
    refine k_aload_n (i := 0) dL_law_564 (rfl : 564 + 1 = 565) rfl rfl ?_
    refine k_iload (i := 5) dL_law_565 (rfl : 565 + 2 = 567) rfl ?_
    refine k_iconst (v := 2) dL_law_567 (rfl : 567 + 1 = 568) (by decide) ?_
    refine k_iadd dL_law_568 (rfl : 568 + 1 = 569) ?_
    refine k_sld (j := i + 2) dL_law_569 (rfl : 569 + 1 = 570) (nI_add i 2) (by omega) (by omega) ?_
    refine k_aload_n (i := 3) dL_law_570 (rfl : 570 + 1 = 571) rfl rfl ?_
    refine k_callSTd4 cv_L_184 ⟨Nat.le_of_ble_eq_true rfl, Nat.le_of_ble_eq_true rfl⟩ hm dL_law_571 (rfl : 571 + 3 = 574) rfl (lc1 hc hs) rfl ?_
    refine k_istore (i := 6) dL_law_574 (rfl : 574 + 2 = 576) (Nat.le_of_ble_eq_true rfl) ?_
    refine k_ls (ls2 := [.ref 2000, .ref 0, .ref 116, .ref 128, .ref 129, .int (nI i), .int 0, .retAddr 0, .retAddr 0]) rfl ?_
    refine k_aload_n (i := 2) dL_law_576 (rfl : 576 + 1 = 577) rfl rfl ?_
    refine k_aload_n (i := 0) dL_law_577 (rfl : 577 + 1 = 578) rfl rfl ?_
    refine k_iload (i := 5) dL_law_578 (rfl : 578 + 2 = 580) rfl ?_
    refine k_iconst (v := 1) dL_law_580 (rfl : 580 + 1 = 581) (by decide) ?_
    refine k_iadd dL_law_581 (rfl : 581 + 1 = 582) ?_
    refine k_sld (j := i + 1) dL_law_582 (rfl : 582 + 1 = 583) (nI_add i 1) (by omega) (by omega) ?_
    refine k_aload_n (i := 0) dL_law_583 (rfl : 583 + 1 = 584) rfl rfl ?_
    refine k_iload (i := 5) dL_law_584 (rfl : 584 + 2 = 586) rfl ?_
    refine k_iconst (v := 2) dL_law_586 (rfl : 586 + 1 = 587) (by decide) ?_
    refine k_iadd dL_law_587 (rfl : 587 + 1 = 588) ?_
    refine k_sld (j := i + 2) dL_law_588 (rfl : 588 + 1 = 589) (nI_add i 2) (by omega) (by omega) ?_
    refine k_callVd2 cv_L_186 ⟨Nat.le_of_ble_eq_true rfl, Nat.le_of_ble_eq_true rfl⟩ (m_X12_reachByQueue (x := y) (a1 := (xs (i + 1))) (a2 := (xs (i + 2)))) dL_law_589 (rfl : 589 + 3 = 592) (Nat.le_of_ble_eq_true rfl) rfl rfl rfl (lc1 hc hs) ?_
    refine k_lstore (i := 7) dL_law_592 (rfl : 592 + 2 = 594) (Nat.le_of_ble_eq_true rfl) ?_
    refine k_ls (ls2 := [.ref 2000, .ref 0, .ref 116, .ref 128, .ref 129, .int (nI i), .int 0, .long (f_X12_reachByQueue y (xs (i + 1)) (xs (i + 2))), .retAddr 0]) rfl ?_
    refine k_aload_n (i := 2) dL_law_594 (rfl : 594 + 1 = 595) rfl rfl ?_
    refine k_callVd0 cv_L_161 ⟨Nat.le_of_ble_eq_true rfl, Nat.le_of_ble_eq_true rfl⟩ (m_X12_thrown (x := (g_X12_reachByQueue y (xs (i + 1)) (xs (i + 2))))) dL_law_595 (rfl : 595 + 3 = 598) (Nat.le_of_ble_eq_true rfl) rfl rfl rfl (lc1 hc hs) ?_
    refine k_iload (i := 6) dL_law_598 (rfl : 598 + 2 = 600) rfl ?_
    refine k_icmp_eq (tgt := 605) dL_law_600 (rfl : 600 + 3 = 603) (by decide) (fun _ => ?_) (fun b => absurd e0 b)
    refine k_iload (i := 6) dL_law_605 (rfl : 605 + 2 = 607) rfl ?_
    refine k_if_ne (tgt := 621) dL_law_607 (rfl : 607 + 3 = 610) (by decide) (fun b => absurd b (by decide)) (fun _ => ?_)
    refine k_aload_n (i := 3) dL_law_610 (rfl : 610 + 1 = 611) rfl rfl ?_
    refine k_iconst (v := 0) dL_law_611 (rfl : 611 + 1 = 612) (by decide) ?_
    refine k_lald dL_law_612 (rfl : 612 + 1 = 613) (Nat.le_of_ble_eq_true rfl) rfl vp_00 ?_
    refine k_lload (i := 7) dL_law_613 (rfl : 613 + 2 = 615) rfl ?_
    refine k_lcmp dL_law_615 (rfl : 615 + 1 = 616) ?_
    refine k_if_eq (tgt := 621) dL_law_616 (rfl : 616 + 3 = 619) (by decide) (fun _ => ?_) (fun b => absurd (lg_cmp_0.2 uL0) b)
    refine k_goto (tgt := 2815) dL_law_621 (by decide) ?_
    exact l_go go X2 (by omega) (Nat.le_refl _) (Nat.le_refl _)
  · rw [eo] at hK
    have hm := x1_L_reachByQueue (h2 := h4 (g_X11_reachByQueue x (xs (i + 1)) (xs (i + 2))) y f d) hK rfl
    refine k_aload_n (i := 1) dL_law_557 (rfl : 557 + 1 = 558) rfl rfl ?_
    refine k_aload_n (i := 0) dL_law_558 (rfl : 558 + 1 = 559) rfl rfl ?_
    refine k_iload (i := 5) dL_law_559 (rfl : 559 + 2 = 561) rfl ?_
    refine k_iconst (v := 1) dL_law_561 (rfl : 561 + 1 = 562) (by decide) ?_
    refine k_iadd dL_law_562 (rfl : 562 + 1 = 563) ?_
    refine k_sld (j := i + 1) dL_law_563 (rfl : 563 + 1 = 564) (nI_add i 1) (by omega) (by omega) ?_
    refine k_aload_n (i := 0) dL_law_564 (rfl : 564 + 1 = 565) rfl rfl ?_
    refine k_iload (i := 5) dL_law_565 (rfl : 565 + 2 = 567) rfl ?_
    refine k_iconst (v := 2) dL_law_567 (rfl : 567 + 1 = 568) (by decide) ?_
    refine k_iadd dL_law_568 (rfl : 568 + 1 = 569) ?_
    refine k_sld (j := i + 2) dL_law_569 (rfl : 569 + 1 = 570) (nI_add i 2) (by omega) (by omega) ?_
    refine k_aload_n (i := 3) dL_law_570 (rfl : 570 + 1 = 571) rfl rfl ?_
    refine k_callSTd4 cv_L_184 ⟨Nat.le_of_ble_eq_true rfl, Nat.le_of_ble_eq_true rfl⟩ hm dL_law_571 (rfl : 571 + 3 = 574) rfl (lc1 hc hs) rfl ?_
    refine k_istore (i := 6) dL_law_574 (rfl : 574 + 2 = 576) (Nat.le_of_ble_eq_true rfl) ?_
    refine k_ls (ls2 := [.ref 2000, .ref 0, .ref 116, .ref 128, .ref 129, .int (nI i), .int 1, .retAddr 0, .retAddr 0]) rfl ?_
    refine k_aload_n (i := 2) dL_law_576 (rfl : 576 + 1 = 577) rfl rfl ?_
    refine k_aload_n (i := 0) dL_law_577 (rfl : 577 + 1 = 578) rfl rfl ?_
    refine k_iload (i := 5) dL_law_578 (rfl : 578 + 2 = 580) rfl ?_
    refine k_iconst (v := 1) dL_law_580 (rfl : 580 + 1 = 581) (by decide) ?_
    refine k_iadd dL_law_581 (rfl : 581 + 1 = 582) ?_
    refine k_sld (j := i + 1) dL_law_582 (rfl : 582 + 1 = 583) (nI_add i 1) (by omega) (by omega) ?_
    refine k_aload_n (i := 0) dL_law_583 (rfl : 583 + 1 = 584) rfl rfl ?_
    refine k_iload (i := 5) dL_law_584 (rfl : 584 + 2 = 586) rfl ?_
    refine k_iconst (v := 2) dL_law_586 (rfl : 586 + 1 = 587) (by decide) ?_
    refine k_iadd dL_law_587 (rfl : 587 + 1 = 588) ?_
    refine k_sld (j := i + 2) dL_law_588 (rfl : 588 + 1 = 589) (nI_add i 2) (by omega) (by omega) ?_
    refine k_callVd2 cv_L_186 ⟨Nat.le_of_ble_eq_true rfl, Nat.le_of_ble_eq_true rfl⟩ (m_X12_reachByQueue (x := y) (a1 := (xs (i + 1))) (a2 := (xs (i + 2)))) dL_law_589 (rfl : 589 + 3 = 592) (Nat.le_of_ble_eq_true rfl) rfl rfl rfl (lc1 hc hs) ?_
    refine k_lstore (i := 7) dL_law_592 (rfl : 592 + 2 = 594) (Nat.le_of_ble_eq_true rfl) ?_
    refine k_ls (ls2 := [.ref 2000, .ref 0, .ref 116, .ref 128, .ref 129, .int (nI i), .int 1, .long (f_X12_reachByQueue y (xs (i + 1)) (xs (i + 2))), .retAddr 0]) rfl ?_
    refine k_aload_n (i := 2) dL_law_594 (rfl : 594 + 1 = 595) rfl rfl ?_
    refine k_callVd0 cv_L_161 ⟨Nat.le_of_ble_eq_true rfl, Nat.le_of_ble_eq_true rfl⟩ (m_X12_thrown (x := (g_X12_reachByQueue y (xs (i + 1)) (xs (i + 2))))) dL_law_595 (rfl : 595 + 3 = 598) (Nat.le_of_ble_eq_true rfl) rfl rfl rfl (lc1 hc hs) ?_
    refine k_iload (i := 6) dL_law_598 (rfl : 598 + 2 = 600) rfl ?_
    refine k_icmp_eq (tgt := 605) dL_law_600 (rfl : 600 + 3 = 603) (by decide) (fun _ => ?_) (fun b => absurd e0 b)
    refine k_iload (i := 6) dL_law_605 (rfl : 605 + 2 = 607) rfl ?_
    refine k_if_ne (tgt := 621) dL_law_607 (rfl : 607 + 3 = 610) (by decide) (fun _ => ?_) (fun b => absurd b (by decide))
    refine k_goto (tgt := 2815) dL_law_621 (by decide) ?_
    exact l_go go X2 (by omega) (Nat.le_refl _) (Nat.le_refl _)
set_option maxRecDepth 100000 in
set_option maxHeartbeats 4000000 in
theorem lcs_7 {nm : String} {tb : List (Nat × Nat × Nat × Nat)} {b L i t cs ss : Nat} {xs : Nat → Int32} {x : kK} {y : kY} {f : Nat → Int64} {d : Nat → UInt64} (X : RX t x y) (ht : t + 11 < 2 ^ 20) (hi : i + 4 ≤ L) (hL : L ≤ 2048) (hc : cs + 1 ≤ 603072) (hs : ss + 6 ≤ 7182442) (go : LG nm tb b L xs i (t + 11) (cs + 1) (ss + 6)) : kEv (kLw nm tb) RW (FL b L xs) false 624 [.ref 2000, .ref 0, .ref 116, .ref 128, .ref 129, .int (nI i), .retAddr 0, .retAddr 0, .retAddr 0] [] (h4 x y f d) 130 cs ss := by
  obtain ⟨X2, alt⟩ := s_setWind X (by omega) (a := (xs (i + 1))) (b := (xs (i + 2)))
  have hK := m_X11_setWind (x := x) (r := kHr y (kJ 1 f, kDb 1 d)) (a1 := (xs (i + 1))) (a2 := (xs (i + 2))) X.hi
  rcases alt with ⟨eo, e0⟩ | ⟨eo, e0⟩
  · rw [eo] at hK
    have hm := v_L_setWind (h2 := h4 (g_X11_setWind x (xs (i + 1)) (xs (i + 2))) y f d) hK rfl rfl
    rw [h4_f] at hm
    refine k_aload_n (i := 1) dL_law_624 (rfl : 624 + 1 = 625) rfl rfl ?_
    refine k_aload_n (i := 0) dL_law_625 (rfl : 625 + 1 = 626) rfl rfl ?_
    refine k_iload (i := 5) dL_law_626 (rfl : 626 + 2 = 628) rfl ?_
    refine k_iconst (v := 1) dL_law_628 (rfl : 628 + 1 = 629) (by decide) ?_
    refine k_iadd dL_law_629 (rfl : 629 + 1 = 630) ?_
    refine k_sld (j := i + 1) dL_law_630 (rfl : 630 + 1 = 631) (nI_add i 1) (by omega) (by omega) ?_
    refine k_aload_n (i := 0) dL_law_631 (rfl : 631 + 1 = 632) rfl rfl ?_
    refine k_iload (i := 5) dL_law_632 (rfl : 632 + 2 = 634) rfl ?_
    refine k_iconst (v := 2) dL_law_634 (rfl : 634 + 1 = 635) (by decide) ?_
    refine k_iadd dL_law_635 (rfl : 635 + 1 = 636) ?_
    refine k_sld (j := i + 2) dL_law_636 (rfl : 636 + 1 = 637) (nI_add i 2) (by omega) (by omega) ?_
    refine k_aload_n (i := 3) dL_law_637 (rfl : 637 + 1 = 638) rfl rfl ?_
    refine k_callSTd4 cv_L_187 ⟨Nat.le_of_ble_eq_true rfl, Nat.le_of_ble_eq_true rfl⟩ hm dL_law_638 (rfl : 638 + 3 = 641) rfl (lc1 hc hs) rfl ?_
    refine k_istore (i := 6) dL_law_641 (rfl : 641 + 2 = 643) (Nat.le_of_ble_eq_true rfl) ?_
    refine k_ls (ls2 := [.ref 2000, .ref 0, .ref 116, .ref 128, .ref 129, .int (nI i), .int 0, .retAddr 0, .retAddr 0]) rfl ?_
    refine k_aload_n (i := 2) dL_law_643 (rfl : 643 + 1 = 644) rfl rfl ?_
    refine k_aload_n (i := 0) dL_law_644 (rfl : 644 + 1 = 645) rfl rfl ?_
    refine k_iload (i := 5) dL_law_645 (rfl : 645 + 2 = 647) rfl ?_
    refine k_iconst (v := 1) dL_law_647 (rfl : 647 + 1 = 648) (by decide) ?_
    refine k_iadd dL_law_648 (rfl : 648 + 1 = 649) ?_
    refine k_sld (j := i + 1) dL_law_649 (rfl : 649 + 1 = 650) (nI_add i 1) (by omega) (by omega) ?_
    refine k_aload_n (i := 0) dL_law_650 (rfl : 650 + 1 = 651) rfl rfl ?_
    refine k_iload (i := 5) dL_law_651 (rfl : 651 + 2 = 653) rfl ?_
    refine k_iconst (v := 2) dL_law_653 (rfl : 653 + 1 = 654) (by decide) ?_
    refine k_iadd dL_law_654 (rfl : 654 + 1 = 655) ?_
    refine k_sld (j := i + 2) dL_law_655 (rfl : 655 + 1 = 656) (nI_add i 2) (by omega) (by omega) ?_
    refine k_callVd2 cv_L_189 ⟨Nat.le_of_ble_eq_true rfl, Nat.le_of_ble_eq_true rfl⟩ (m_X12_setWind (x := y) (a1 := (xs (i + 1))) (a2 := (xs (i + 2))) X.ch) dL_law_656 (rfl : 656 + 3 = 659) (Nat.le_of_ble_eq_true rfl) rfl rfl rfl (lc1 hc hs) ?_
    refine k_istore (i := 7) dL_law_659 (rfl : 659 + 2 = 661) (Nat.le_of_ble_eq_true rfl) ?_
    refine k_ls (ls2 := [.ref 2000, .ref 0, .ref 116, .ref 128, .ref 129, .int (nI i), .int 0, .int (f_X12_setWind y (xs (i + 1)) (xs (i + 2))), .retAddr 0]) rfl ?_
    refine k_aload_n (i := 2) dL_law_661 (rfl : 661 + 1 = 662) rfl rfl ?_
    refine k_callVd0 cv_L_161 ⟨Nat.le_of_ble_eq_true rfl, Nat.le_of_ble_eq_true rfl⟩ (m_X12_thrown (x := (g_X12_setWind y (xs (i + 1)) (xs (i + 2))))) dL_law_662 (rfl : 662 + 3 = 665) (Nat.le_of_ble_eq_true rfl) rfl rfl rfl (lc1 hc hs) ?_
    refine k_iload (i := 6) dL_law_665 (rfl : 665 + 2 = 667) rfl ?_
    refine k_icmp_eq (tgt := 672) dL_law_667 (rfl : 667 + 3 = 670) (by decide) (fun _ => ?_) (fun b => absurd e0 b)
    refine k_iload (i := 6) dL_law_672 (rfl : 672 + 2 = 674) rfl ?_
    refine k_if_ne (tgt := 689) dL_law_674 (rfl : 674 + 3 = 677) (by decide) (fun b => absurd b (by decide)) (fun _ => ?_)
    refine k_aload_n (i := 3) dL_law_677 (rfl : 677 + 1 = 678) rfl rfl ?_
    refine k_iconst (v := 0) dL_law_678 (rfl : 678 + 1 = 679) (by decide) ?_
    refine k_lald dL_law_679 (rfl : 679 + 1 = 680) (Nat.le_of_ble_eq_true rfl) rfl vp_00 ?_
    refine k_iload (i := 7) dL_law_680 (rfl : 680 + 2 = 682) rfl ?_
    refine k_i2l dL_law_682 (rfl : 682 + 1 = 683) ?_
    refine k_lcmp dL_law_683 (rfl : 683 + 1 = 684) ?_
    refine k_if_eq (tgt := 689) dL_law_684 (rfl : 684 + 3 = 687) (by decide) (fun _ => ?_) (fun b => absurd (lg_cmp_0.2 uL0) b)
    refine k_goto (tgt := 2815) dL_law_689 (by decide) ?_
    exact l_go go X2 (by omega) (Nat.le_refl _) (Nat.le_refl _)
  · rw [eo] at hK
    have hm := x1_L_setWind (h2 := h4 (g_X11_setWind x (xs (i + 1)) (xs (i + 2))) y f d) hK rfl
    refine k_aload_n (i := 1) dL_law_624 (rfl : 624 + 1 = 625) rfl rfl ?_
    refine k_aload_n (i := 0) dL_law_625 (rfl : 625 + 1 = 626) rfl rfl ?_
    refine k_iload (i := 5) dL_law_626 (rfl : 626 + 2 = 628) rfl ?_
    refine k_iconst (v := 1) dL_law_628 (rfl : 628 + 1 = 629) (by decide) ?_
    refine k_iadd dL_law_629 (rfl : 629 + 1 = 630) ?_
    refine k_sld (j := i + 1) dL_law_630 (rfl : 630 + 1 = 631) (nI_add i 1) (by omega) (by omega) ?_
    refine k_aload_n (i := 0) dL_law_631 (rfl : 631 + 1 = 632) rfl rfl ?_
    refine k_iload (i := 5) dL_law_632 (rfl : 632 + 2 = 634) rfl ?_
    refine k_iconst (v := 2) dL_law_634 (rfl : 634 + 1 = 635) (by decide) ?_
    refine k_iadd dL_law_635 (rfl : 635 + 1 = 636) ?_
    refine k_sld (j := i + 2) dL_law_636 (rfl : 636 + 1 = 637) (nI_add i 2) (by omega) (by omega) ?_
    refine k_aload_n (i := 3) dL_law_637 (rfl : 637 + 1 = 638) rfl rfl ?_
    refine k_callSTd4 cv_L_187 ⟨Nat.le_of_ble_eq_true rfl, Nat.le_of_ble_eq_true rfl⟩ hm dL_law_638 (rfl : 638 + 3 = 641) rfl (lc1 hc hs) rfl ?_
    refine k_istore (i := 6) dL_law_641 (rfl : 641 + 2 = 643) (Nat.le_of_ble_eq_true rfl) ?_
    refine k_ls (ls2 := [.ref 2000, .ref 0, .ref 116, .ref 128, .ref 129, .int (nI i), .int 1, .retAddr 0, .retAddr 0]) rfl ?_
    refine k_aload_n (i := 2) dL_law_643 (rfl : 643 + 1 = 644) rfl rfl ?_
    refine k_aload_n (i := 0) dL_law_644 (rfl : 644 + 1 = 645) rfl rfl ?_
    refine k_iload (i := 5) dL_law_645 (rfl : 645 + 2 = 647) rfl ?_
    refine k_iconst (v := 1) dL_law_647 (rfl : 647 + 1 = 648) (by decide) ?_
    refine k_iadd dL_law_648 (rfl : 648 + 1 = 649) ?_
    refine k_sld (j := i + 1) dL_law_649 (rfl : 649 + 1 = 650) (nI_add i 1) (by omega) (by omega) ?_
    refine k_aload_n (i := 0) dL_law_650 (rfl : 650 + 1 = 651) rfl rfl ?_
    refine k_iload (i := 5) dL_law_651 (rfl : 651 + 2 = 653) rfl ?_
    refine k_iconst (v := 2) dL_law_653 (rfl : 653 + 1 = 654) (by decide) ?_
    refine k_iadd dL_law_654 (rfl : 654 + 1 = 655) ?_
    refine k_sld (j := i + 2) dL_law_655 (rfl : 655 + 1 = 656) (nI_add i 2) (by omega) (by omega) ?_
    refine k_callVd2 cv_L_189 ⟨Nat.le_of_ble_eq_true rfl, Nat.le_of_ble_eq_true rfl⟩ (m_X12_setWind (x := y) (a1 := (xs (i + 1))) (a2 := (xs (i + 2))) X.ch) dL_law_656 (rfl : 656 + 3 = 659) (Nat.le_of_ble_eq_true rfl) rfl rfl rfl (lc1 hc hs) ?_
    refine k_istore (i := 7) dL_law_659 (rfl : 659 + 2 = 661) (Nat.le_of_ble_eq_true rfl) ?_
    refine k_ls (ls2 := [.ref 2000, .ref 0, .ref 116, .ref 128, .ref 129, .int (nI i), .int 1, .int (f_X12_setWind y (xs (i + 1)) (xs (i + 2))), .retAddr 0]) rfl ?_
    refine k_aload_n (i := 2) dL_law_661 (rfl : 661 + 1 = 662) rfl rfl ?_
    refine k_callVd0 cv_L_161 ⟨Nat.le_of_ble_eq_true rfl, Nat.le_of_ble_eq_true rfl⟩ (m_X12_thrown (x := (g_X12_setWind y (xs (i + 1)) (xs (i + 2))))) dL_law_662 (rfl : 662 + 3 = 665) (Nat.le_of_ble_eq_true rfl) rfl rfl rfl (lc1 hc hs) ?_
    refine k_iload (i := 6) dL_law_665 (rfl : 665 + 2 = 667) rfl ?_
    refine k_icmp_eq (tgt := 672) dL_law_667 (rfl : 667 + 3 = 670) (by decide) (fun _ => ?_) (fun b => absurd e0 b)
    refine k_iload (i := 6) dL_law_672 (rfl : 672 + 2 = 674) rfl ?_
    refine k_if_ne (tgt := 689) dL_law_674 (rfl : 674 + 3 = 677) (by decide) (fun _ => ?_) (fun b => absurd b (by decide))
    refine k_goto (tgt := 2815) dL_law_689 (by decide) ?_
    exact l_go go X2 (by omega) (Nat.le_refl _) (Nat.le_refl _)
set_option maxRecDepth 100000 in
set_option maxHeartbeats 4000000 in
theorem lcs_8 {nm : String} {tb : List (Nat × Nat × Nat × Nat)} {b L i t cs ss : Nat} {xs : Nat → Int32} {x : kK} {y : kY} {f : Nat → Int64} {d : Nat → UInt64} (X : RX t x y) (ht : t + 11 < 2 ^ 20) (hi : i + 4 ≤ L) (hL : L ≤ 2048) (hc : cs + 1 ≤ 603072) (hs : ss + 6 ≤ 7182442) (go : LG nm tb b L xs i (t + 11) (cs + 1) (ss + 6)) : kEv (kLw nm tb) RW (FL b L xs) false 692 [.ref 2000, .ref 0, .ref 116, .ref 128, .ref 129, .int (nI i), .retAddr 0, .retAddr 0, .retAddr 0] [] (h4 x y f d) 130 cs ss := by
  obtain ⟨X2, qe, -⟩ := q_bench X
  refine k_aload_n (i := 1) dL_law_692 (rfl : 692 + 1 = 693) rfl rfl ?_
  refine k_callVd0 cv_L_190 ⟨Nat.le_of_ble_eq_true rfl, Nat.le_of_ble_eq_true rfl⟩ (m_X11_bench (x := x)) dL_law_693 (rfl : 693 + 3 = 696) (Nat.le_of_ble_eq_true rfl) rfl rfl rfl (lc0 hc hs) ?_
  refine k_aload_n (i := 2) dL_law_696 (rfl : 696 + 1 = 697) rfl rfl ?_
  refine k_callVd0 cv_L_193 ⟨Nat.le_of_ble_eq_true rfl, Nat.le_of_ble_eq_true rfl⟩ (m_X12_bench (x := y)) dL_law_697 (rfl : 697 + 3 = 700) (Nat.le_of_ble_eq_true rfl) rfl rfl rfl (lc0 hc hs) ?_
  refine k_icmp_eq (tgt := 2815) dL_law_700 (rfl : 700 + 3 = 703) (by decide) (fun _ => ?_) (fun b => absurd qe b)
  exact l_go go X2 (by omega) (show cs ≤ cs + 1 by omega) (show ss ≤ ss + 6 by omega)
set_option maxRecDepth 100000 in
set_option maxHeartbeats 4000000 in
theorem lcs_9 {nm : String} {tb : List (Nat × Nat × Nat × Nat)} {b L i t cs ss : Nat} {xs : Nat → Int32} {x : kK} {y : kY} {f : Nat → Int64} {d : Nat → UInt64} (X : RX t x y) (ht : t + 11 < 2 ^ 20) (hi : i + 4 ≤ L) (hL : L ≤ 2048) (hc : cs + 1 ≤ 603072) (hs : ss + 6 ≤ 7182442) (go : LG nm tb b L xs i (t + 11) (cs + 1) (ss + 6)) : kEv (kLw nm tb) RW (FL b L xs) false 705 [.ref 2000, .ref 0, .ref 116, .ref 128, .ref 129, .int (nI i), .retAddr 0, .retAddr 0, .retAddr 0] [] (h4 x y f d) 130 cs ss := by
  obtain ⟨X2, alt⟩ := s_addParty X (by omega) (a := (xs (i + 1))) (b := (xs (i + 2)))
  have hK := m_X11_addParty (x := x) (r := kHr y (kJ 1 f, kDb 1 d)) (a1 := (xs (i + 1))) (a2 := (xs (i + 2))) X.R.iv X.hi
  rcases alt with ⟨eo, e0⟩ | ⟨eo, e0⟩ | ⟨eo, e0⟩ | ⟨eo, e0⟩
  · rw [eo] at hK
    have hm := v_L_addParty (h2 := h4 (g_X11_addParty x (xs (i + 1)) (xs (i + 2))) y f d) hK rfl rfl
    rw [h4_f] at hm
    refine k_aload_n (i := 1) dL_law_705 (rfl : 705 + 1 = 706) rfl rfl ?_
    refine k_aload_n (i := 0) dL_law_706 (rfl : 706 + 1 = 707) rfl rfl ?_
    refine k_iload (i := 5) dL_law_707 (rfl : 707 + 2 = 709) rfl ?_
    refine k_iconst (v := 1) dL_law_709 (rfl : 709 + 1 = 710) (by decide) ?_
    refine k_iadd dL_law_710 (rfl : 710 + 1 = 711) ?_
    refine k_sld (j := i + 1) dL_law_711 (rfl : 711 + 1 = 712) (nI_add i 1) (by omega) (by omega) ?_
    refine k_aload_n (i := 0) dL_law_712 (rfl : 712 + 1 = 713) rfl rfl ?_
    refine k_iload (i := 5) dL_law_713 (rfl : 713 + 2 = 715) rfl ?_
    refine k_iconst (v := 2) dL_law_715 (rfl : 715 + 1 = 716) (by decide) ?_
    refine k_iadd dL_law_716 (rfl : 716 + 1 = 717) ?_
    refine k_sld (j := i + 2) dL_law_717 (rfl : 717 + 1 = 718) (nI_add i 2) (by omega) (by omega) ?_
    refine k_aload_n (i := 3) dL_law_718 (rfl : 718 + 1 = 719) rfl rfl ?_
    refine k_callSTd4 cv_L_194 ⟨Nat.le_of_ble_eq_true rfl, Nat.le_of_ble_eq_true rfl⟩ hm dL_law_719 (rfl : 719 + 3 = 722) rfl (lc1 hc hs) rfl ?_
    refine k_istore (i := 6) dL_law_722 (rfl : 722 + 2 = 724) (Nat.le_of_ble_eq_true rfl) ?_
    refine k_ls (ls2 := [.ref 2000, .ref 0, .ref 116, .ref 128, .ref 129, .int (nI i), .int 0, .retAddr 0, .retAddr 0]) rfl ?_
    refine k_aload_n (i := 2) dL_law_724 (rfl : 724 + 1 = 725) rfl rfl ?_
    refine k_aload_n (i := 0) dL_law_725 (rfl : 725 + 1 = 726) rfl rfl ?_
    refine k_iload (i := 5) dL_law_726 (rfl : 726 + 2 = 728) rfl ?_
    refine k_iconst (v := 1) dL_law_728 (rfl : 728 + 1 = 729) (by decide) ?_
    refine k_iadd dL_law_729 (rfl : 729 + 1 = 730) ?_
    refine k_sld (j := i + 1) dL_law_730 (rfl : 730 + 1 = 731) (nI_add i 1) (by omega) (by omega) ?_
    refine k_aload_n (i := 0) dL_law_731 (rfl : 731 + 1 = 732) rfl rfl ?_
    refine k_iload (i := 5) dL_law_732 (rfl : 732 + 2 = 734) rfl ?_
    refine k_iconst (v := 2) dL_law_734 (rfl : 734 + 1 = 735) (by decide) ?_
    refine k_iadd dL_law_735 (rfl : 735 + 1 = 736) ?_
    refine k_sld (j := i + 2) dL_law_736 (rfl : 736 + 1 = 737) (nI_add i 2) (by omega) (by omega) ?_
    refine k_callVd2 cv_L_196 ⟨Nat.le_of_ble_eq_true rfl, Nat.le_of_ble_eq_true rfl⟩ (m_X12_addParty (x := y) (a1 := (xs (i + 1))) (a2 := (xs (i + 2))) X.ch X.R.mv) dL_law_737 (rfl : 737 + 3 = 740) (Nat.le_of_ble_eq_true rfl) rfl rfl rfl (lc1 hc hs) ?_
    refine k_istore (i := 7) dL_law_740 (rfl : 740 + 2 = 742) (Nat.le_of_ble_eq_true rfl) ?_
    refine k_ls (ls2 := [.ref 2000, .ref 0, .ref 116, .ref 128, .ref 129, .int (nI i), .int 0, .int (f_X12_addParty y (xs (i + 1)) (xs (i + 2))), .retAddr 0]) rfl ?_
    refine k_aload_n (i := 2) dL_law_742 (rfl : 742 + 1 = 743) rfl rfl ?_
    refine k_callVd0 cv_L_161 ⟨Nat.le_of_ble_eq_true rfl, Nat.le_of_ble_eq_true rfl⟩ (m_X12_thrown (x := (g_X12_addParty y (xs (i + 1)) (xs (i + 2))))) dL_law_743 (rfl : 743 + 3 = 746) (Nat.le_of_ble_eq_true rfl) rfl rfl rfl (lc1 hc hs) ?_
    refine k_iload (i := 6) dL_law_746 (rfl : 746 + 2 = 748) rfl ?_
    refine k_icmp_eq (tgt := 753) dL_law_748 (rfl : 748 + 3 = 751) (by decide) (fun _ => ?_) (fun b => absurd e0 b)
    refine k_iload (i := 6) dL_law_753 (rfl : 753 + 2 = 755) rfl ?_
    refine k_if_ne (tgt := 770) dL_law_755 (rfl : 755 + 3 = 758) (by decide) (fun b => absurd b (by decide)) (fun _ => ?_)
    refine k_aload_n (i := 3) dL_law_758 (rfl : 758 + 1 = 759) rfl rfl ?_
    refine k_iconst (v := 0) dL_law_759 (rfl : 759 + 1 = 760) (by decide) ?_
    refine k_lald dL_law_760 (rfl : 760 + 1 = 761) (Nat.le_of_ble_eq_true rfl) rfl vp_00 ?_
    refine k_iload (i := 7) dL_law_761 (rfl : 761 + 2 = 763) rfl ?_
    refine k_i2l dL_law_763 (rfl : 763 + 1 = 764) ?_
    refine k_lcmp dL_law_764 (rfl : 764 + 1 = 765) ?_
    refine k_if_eq (tgt := 770) dL_law_765 (rfl : 765 + 3 = 768) (by decide) (fun _ => ?_) (fun b => absurd (lg_cmp_0.2 uL0) b)
    refine k_goto (tgt := 2815) dL_law_770 (by decide) ?_
    exact l_go go X2 (by omega) (Nat.le_refl _) (Nat.le_refl _)
  · rw [eo] at hK
    have hm := x1_L_addParty (h2 := h4 (g_X11_addParty x (xs (i + 1)) (xs (i + 2))) y f d) hK rfl
    refine k_aload_n (i := 1) dL_law_705 (rfl : 705 + 1 = 706) rfl rfl ?_
    refine k_aload_n (i := 0) dL_law_706 (rfl : 706 + 1 = 707) rfl rfl ?_
    refine k_iload (i := 5) dL_law_707 (rfl : 707 + 2 = 709) rfl ?_
    refine k_iconst (v := 1) dL_law_709 (rfl : 709 + 1 = 710) (by decide) ?_
    refine k_iadd dL_law_710 (rfl : 710 + 1 = 711) ?_
    refine k_sld (j := i + 1) dL_law_711 (rfl : 711 + 1 = 712) (nI_add i 1) (by omega) (by omega) ?_
    refine k_aload_n (i := 0) dL_law_712 (rfl : 712 + 1 = 713) rfl rfl ?_
    refine k_iload (i := 5) dL_law_713 (rfl : 713 + 2 = 715) rfl ?_
    refine k_iconst (v := 2) dL_law_715 (rfl : 715 + 1 = 716) (by decide) ?_
    refine k_iadd dL_law_716 (rfl : 716 + 1 = 717) ?_
    refine k_sld (j := i + 2) dL_law_717 (rfl : 717 + 1 = 718) (nI_add i 2) (by omega) (by omega) ?_
    refine k_aload_n (i := 3) dL_law_718 (rfl : 718 + 1 = 719) rfl rfl ?_
    refine k_callSTd4 cv_L_194 ⟨Nat.le_of_ble_eq_true rfl, Nat.le_of_ble_eq_true rfl⟩ hm dL_law_719 (rfl : 719 + 3 = 722) rfl (lc1 hc hs) rfl ?_
    refine k_istore (i := 6) dL_law_722 (rfl : 722 + 2 = 724) (Nat.le_of_ble_eq_true rfl) ?_
    refine k_ls (ls2 := [.ref 2000, .ref 0, .ref 116, .ref 128, .ref 129, .int (nI i), .int 1, .retAddr 0, .retAddr 0]) rfl ?_
    refine k_aload_n (i := 2) dL_law_724 (rfl : 724 + 1 = 725) rfl rfl ?_
    refine k_aload_n (i := 0) dL_law_725 (rfl : 725 + 1 = 726) rfl rfl ?_
    refine k_iload (i := 5) dL_law_726 (rfl : 726 + 2 = 728) rfl ?_
    refine k_iconst (v := 1) dL_law_728 (rfl : 728 + 1 = 729) (by decide) ?_
    refine k_iadd dL_law_729 (rfl : 729 + 1 = 730) ?_
    refine k_sld (j := i + 1) dL_law_730 (rfl : 730 + 1 = 731) (nI_add i 1) (by omega) (by omega) ?_
    refine k_aload_n (i := 0) dL_law_731 (rfl : 731 + 1 = 732) rfl rfl ?_
    refine k_iload (i := 5) dL_law_732 (rfl : 732 + 2 = 734) rfl ?_
    refine k_iconst (v := 2) dL_law_734 (rfl : 734 + 1 = 735) (by decide) ?_
    refine k_iadd dL_law_735 (rfl : 735 + 1 = 736) ?_
    refine k_sld (j := i + 2) dL_law_736 (rfl : 736 + 1 = 737) (nI_add i 2) (by omega) (by omega) ?_
    refine k_callVd2 cv_L_196 ⟨Nat.le_of_ble_eq_true rfl, Nat.le_of_ble_eq_true rfl⟩ (m_X12_addParty (x := y) (a1 := (xs (i + 1))) (a2 := (xs (i + 2))) X.ch X.R.mv) dL_law_737 (rfl : 737 + 3 = 740) (Nat.le_of_ble_eq_true rfl) rfl rfl rfl (lc1 hc hs) ?_
    refine k_istore (i := 7) dL_law_740 (rfl : 740 + 2 = 742) (Nat.le_of_ble_eq_true rfl) ?_
    refine k_ls (ls2 := [.ref 2000, .ref 0, .ref 116, .ref 128, .ref 129, .int (nI i), .int 1, .int (f_X12_addParty y (xs (i + 1)) (xs (i + 2))), .retAddr 0]) rfl ?_
    refine k_aload_n (i := 2) dL_law_742 (rfl : 742 + 1 = 743) rfl rfl ?_
    refine k_callVd0 cv_L_161 ⟨Nat.le_of_ble_eq_true rfl, Nat.le_of_ble_eq_true rfl⟩ (m_X12_thrown (x := (g_X12_addParty y (xs (i + 1)) (xs (i + 2))))) dL_law_743 (rfl : 743 + 3 = 746) (Nat.le_of_ble_eq_true rfl) rfl rfl rfl (lc1 hc hs) ?_
    refine k_iload (i := 6) dL_law_746 (rfl : 746 + 2 = 748) rfl ?_
    refine k_icmp_eq (tgt := 753) dL_law_748 (rfl : 748 + 3 = 751) (by decide) (fun _ => ?_) (fun b => absurd e0 b)
    refine k_iload (i := 6) dL_law_753 (rfl : 753 + 2 = 755) rfl ?_
    refine k_if_ne (tgt := 770) dL_law_755 (rfl : 755 + 3 = 758) (by decide) (fun _ => ?_) (fun b => absurd b (by decide))
    refine k_goto (tgt := 2815) dL_law_770 (by decide) ?_
    exact l_go go X2 (by omega) (Nat.le_refl _) (Nat.le_refl _)
  · rw [eo] at hK
    have hm := x2_L_addParty (h2 := h4 (g_X11_addParty x (xs (i + 1)) (xs (i + 2))) y f d) hK rfl
    refine k_aload_n (i := 1) dL_law_705 (rfl : 705 + 1 = 706) rfl rfl ?_
    refine k_aload_n (i := 0) dL_law_706 (rfl : 706 + 1 = 707) rfl rfl ?_
    refine k_iload (i := 5) dL_law_707 (rfl : 707 + 2 = 709) rfl ?_
    refine k_iconst (v := 1) dL_law_709 (rfl : 709 + 1 = 710) (by decide) ?_
    refine k_iadd dL_law_710 (rfl : 710 + 1 = 711) ?_
    refine k_sld (j := i + 1) dL_law_711 (rfl : 711 + 1 = 712) (nI_add i 1) (by omega) (by omega) ?_
    refine k_aload_n (i := 0) dL_law_712 (rfl : 712 + 1 = 713) rfl rfl ?_
    refine k_iload (i := 5) dL_law_713 (rfl : 713 + 2 = 715) rfl ?_
    refine k_iconst (v := 2) dL_law_715 (rfl : 715 + 1 = 716) (by decide) ?_
    refine k_iadd dL_law_716 (rfl : 716 + 1 = 717) ?_
    refine k_sld (j := i + 2) dL_law_717 (rfl : 717 + 1 = 718) (nI_add i 2) (by omega) (by omega) ?_
    refine k_aload_n (i := 3) dL_law_718 (rfl : 718 + 1 = 719) rfl rfl ?_
    refine k_callSTd4 cv_L_194 ⟨Nat.le_of_ble_eq_true rfl, Nat.le_of_ble_eq_true rfl⟩ hm dL_law_719 (rfl : 719 + 3 = 722) rfl (lc1 hc hs) rfl ?_
    refine k_istore (i := 6) dL_law_722 (rfl : 722 + 2 = 724) (Nat.le_of_ble_eq_true rfl) ?_
    refine k_ls (ls2 := [.ref 2000, .ref 0, .ref 116, .ref 128, .ref 129, .int (nI i), .int 2, .retAddr 0, .retAddr 0]) rfl ?_
    refine k_aload_n (i := 2) dL_law_724 (rfl : 724 + 1 = 725) rfl rfl ?_
    refine k_aload_n (i := 0) dL_law_725 (rfl : 725 + 1 = 726) rfl rfl ?_
    refine k_iload (i := 5) dL_law_726 (rfl : 726 + 2 = 728) rfl ?_
    refine k_iconst (v := 1) dL_law_728 (rfl : 728 + 1 = 729) (by decide) ?_
    refine k_iadd dL_law_729 (rfl : 729 + 1 = 730) ?_
    refine k_sld (j := i + 1) dL_law_730 (rfl : 730 + 1 = 731) (nI_add i 1) (by omega) (by omega) ?_
    refine k_aload_n (i := 0) dL_law_731 (rfl : 731 + 1 = 732) rfl rfl ?_
    refine k_iload (i := 5) dL_law_732 (rfl : 732 + 2 = 734) rfl ?_
    refine k_iconst (v := 2) dL_law_734 (rfl : 734 + 1 = 735) (by decide) ?_
    refine k_iadd dL_law_735 (rfl : 735 + 1 = 736) ?_
    refine k_sld (j := i + 2) dL_law_736 (rfl : 736 + 1 = 737) (nI_add i 2) (by omega) (by omega) ?_
    refine k_callVd2 cv_L_196 ⟨Nat.le_of_ble_eq_true rfl, Nat.le_of_ble_eq_true rfl⟩ (m_X12_addParty (x := y) (a1 := (xs (i + 1))) (a2 := (xs (i + 2))) X.ch X.R.mv) dL_law_737 (rfl : 737 + 3 = 740) (Nat.le_of_ble_eq_true rfl) rfl rfl rfl (lc1 hc hs) ?_
    refine k_istore (i := 7) dL_law_740 (rfl : 740 + 2 = 742) (Nat.le_of_ble_eq_true rfl) ?_
    refine k_ls (ls2 := [.ref 2000, .ref 0, .ref 116, .ref 128, .ref 129, .int (nI i), .int 2, .int (f_X12_addParty y (xs (i + 1)) (xs (i + 2))), .retAddr 0]) rfl ?_
    refine k_aload_n (i := 2) dL_law_742 (rfl : 742 + 1 = 743) rfl rfl ?_
    refine k_callVd0 cv_L_161 ⟨Nat.le_of_ble_eq_true rfl, Nat.le_of_ble_eq_true rfl⟩ (m_X12_thrown (x := (g_X12_addParty y (xs (i + 1)) (xs (i + 2))))) dL_law_743 (rfl : 743 + 3 = 746) (Nat.le_of_ble_eq_true rfl) rfl rfl rfl (lc1 hc hs) ?_
    refine k_iload (i := 6) dL_law_746 (rfl : 746 + 2 = 748) rfl ?_
    refine k_icmp_eq (tgt := 753) dL_law_748 (rfl : 748 + 3 = 751) (by decide) (fun _ => ?_) (fun b => absurd e0 b)
    refine k_iload (i := 6) dL_law_753 (rfl : 753 + 2 = 755) rfl ?_
    refine k_if_ne (tgt := 770) dL_law_755 (rfl : 755 + 3 = 758) (by decide) (fun _ => ?_) (fun b => absurd b (by decide))
    refine k_goto (tgt := 2815) dL_law_770 (by decide) ?_
    exact l_go go X2 (by omega) (Nat.le_refl _) (Nat.le_refl _)
  · rw [eo] at hK
    have hm := x3_L_addParty (h2 := h4 (g_X11_addParty x (xs (i + 1)) (xs (i + 2))) y f d) hK rfl
    refine k_aload_n (i := 1) dL_law_705 (rfl : 705 + 1 = 706) rfl rfl ?_
    refine k_aload_n (i := 0) dL_law_706 (rfl : 706 + 1 = 707) rfl rfl ?_
    refine k_iload (i := 5) dL_law_707 (rfl : 707 + 2 = 709) rfl ?_
    refine k_iconst (v := 1) dL_law_709 (rfl : 709 + 1 = 710) (by decide) ?_
    refine k_iadd dL_law_710 (rfl : 710 + 1 = 711) ?_
    refine k_sld (j := i + 1) dL_law_711 (rfl : 711 + 1 = 712) (nI_add i 1) (by omega) (by omega) ?_
    refine k_aload_n (i := 0) dL_law_712 (rfl : 712 + 1 = 713) rfl rfl ?_
    refine k_iload (i := 5) dL_law_713 (rfl : 713 + 2 = 715) rfl ?_
    refine k_iconst (v := 2) dL_law_715 (rfl : 715 + 1 = 716) (by decide) ?_
    refine k_iadd dL_law_716 (rfl : 716 + 1 = 717) ?_
    refine k_sld (j := i + 2) dL_law_717 (rfl : 717 + 1 = 718) (nI_add i 2) (by omega) (by omega) ?_
    refine k_aload_n (i := 3) dL_law_718 (rfl : 718 + 1 = 719) rfl rfl ?_
    refine k_callSTd4 cv_L_194 ⟨Nat.le_of_ble_eq_true rfl, Nat.le_of_ble_eq_true rfl⟩ hm dL_law_719 (rfl : 719 + 3 = 722) rfl (lc1 hc hs) rfl ?_
    refine k_istore (i := 6) dL_law_722 (rfl : 722 + 2 = 724) (Nat.le_of_ble_eq_true rfl) ?_
    refine k_ls (ls2 := [.ref 2000, .ref 0, .ref 116, .ref 128, .ref 129, .int (nI i), .int 3, .retAddr 0, .retAddr 0]) rfl ?_
    refine k_aload_n (i := 2) dL_law_724 (rfl : 724 + 1 = 725) rfl rfl ?_
    refine k_aload_n (i := 0) dL_law_725 (rfl : 725 + 1 = 726) rfl rfl ?_
    refine k_iload (i := 5) dL_law_726 (rfl : 726 + 2 = 728) rfl ?_
    refine k_iconst (v := 1) dL_law_728 (rfl : 728 + 1 = 729) (by decide) ?_
    refine k_iadd dL_law_729 (rfl : 729 + 1 = 730) ?_
    refine k_sld (j := i + 1) dL_law_730 (rfl : 730 + 1 = 731) (nI_add i 1) (by omega) (by omega) ?_
    refine k_aload_n (i := 0) dL_law_731 (rfl : 731 + 1 = 732) rfl rfl ?_
    refine k_iload (i := 5) dL_law_732 (rfl : 732 + 2 = 734) rfl ?_
    refine k_iconst (v := 2) dL_law_734 (rfl : 734 + 1 = 735) (by decide) ?_
    refine k_iadd dL_law_735 (rfl : 735 + 1 = 736) ?_
    refine k_sld (j := i + 2) dL_law_736 (rfl : 736 + 1 = 737) (nI_add i 2) (by omega) (by omega) ?_
    refine k_callVd2 cv_L_196 ⟨Nat.le_of_ble_eq_true rfl, Nat.le_of_ble_eq_true rfl⟩ (m_X12_addParty (x := y) (a1 := (xs (i + 1))) (a2 := (xs (i + 2))) X.ch X.R.mv) dL_law_737 (rfl : 737 + 3 = 740) (Nat.le_of_ble_eq_true rfl) rfl rfl rfl (lc1 hc hs) ?_
    refine k_istore (i := 7) dL_law_740 (rfl : 740 + 2 = 742) (Nat.le_of_ble_eq_true rfl) ?_
    refine k_ls (ls2 := [.ref 2000, .ref 0, .ref 116, .ref 128, .ref 129, .int (nI i), .int 3, .int (f_X12_addParty y (xs (i + 1)) (xs (i + 2))), .retAddr 0]) rfl ?_
    refine k_aload_n (i := 2) dL_law_742 (rfl : 742 + 1 = 743) rfl rfl ?_
    refine k_callVd0 cv_L_161 ⟨Nat.le_of_ble_eq_true rfl, Nat.le_of_ble_eq_true rfl⟩ (m_X12_thrown (x := (g_X12_addParty y (xs (i + 1)) (xs (i + 2))))) dL_law_743 (rfl : 743 + 3 = 746) (Nat.le_of_ble_eq_true rfl) rfl rfl rfl (lc1 hc hs) ?_
    refine k_iload (i := 6) dL_law_746 (rfl : 746 + 2 = 748) rfl ?_
    refine k_icmp_eq (tgt := 753) dL_law_748 (rfl : 748 + 3 = 751) (by decide) (fun _ => ?_) (fun b => absurd e0 b)
    refine k_iload (i := 6) dL_law_753 (rfl : 753 + 2 = 755) rfl ?_
    refine k_if_ne (tgt := 770) dL_law_755 (rfl : 755 + 3 = 758) (by decide) (fun _ => ?_) (fun b => absurd b (by decide))
    refine k_goto (tgt := 2815) dL_law_770 (by decide) ?_
    exact l_go go X2 (by omega) (Nat.le_refl _) (Nat.le_refl _)
set_option maxRecDepth 100000 in
set_option maxHeartbeats 4000000 in
theorem lcs_10 {nm : String} {tb : List (Nat × Nat × Nat × Nat)} {b L i t cs ss : Nat} {xs : Nat → Int32} {x : kK} {y : kY} {f : Nat → Int64} {d : Nat → UInt64} (X : RX t x y) (ht : t + 11 < 2 ^ 20) (hi : i + 4 ≤ L) (hL : L ≤ 2048) (hc : cs + 1 ≤ 603072) (hs : ss + 6 ≤ 7182442) (go : LG nm tb b L xs i (t + 11) (cs + 1) (ss + 6)) : kEv (kLw nm tb) RW (FL b L xs) false 773 [.ref 2000, .ref 0, .ref 116, .ref 128, .ref 129, .int (nI i), .retAddr 0, .retAddr 0, .retAddr 0] [] (h4 x y f d) 130 cs ss := by
  obtain ⟨X2, alt⟩ := s_moveParty X (by omega) (a := (xs (i + 1))) (b := (xs (i + 2))) (c := (xs (i + 3)))
  have hK := m_X11_moveParty (x := x) (r := kHr y (kJ 1 f, kDb 1 d)) (a1 := (xs (i + 1))) (a2 := (xs (i + 2))) (a3 := (xs (i + 3))) X.R.iv X.hi
  rcases alt with ⟨eo, e0⟩ | ⟨eo, e0⟩ | ⟨eo, e0⟩
  · rw [eo] at hK
    have hm := v_L_moveParty (h2 := h4 (g_X11_moveParty x (xs (i + 1)) (xs (i + 2)) (xs (i + 3))) y f d) hK rfl rfl
    rw [h4_f] at hm
    refine k_aload_n (i := 1) dL_law_773 (rfl : 773 + 1 = 774) rfl rfl ?_
    refine k_aload_n (i := 0) dL_law_774 (rfl : 774 + 1 = 775) rfl rfl ?_
    refine k_iload (i := 5) dL_law_775 (rfl : 775 + 2 = 777) rfl ?_
    refine k_iconst (v := 1) dL_law_777 (rfl : 777 + 1 = 778) (by decide) ?_
    refine k_iadd dL_law_778 (rfl : 778 + 1 = 779) ?_
    refine k_sld (j := i + 1) dL_law_779 (rfl : 779 + 1 = 780) (nI_add i 1) (by omega) (by omega) ?_
    refine k_aload_n (i := 0) dL_law_780 (rfl : 780 + 1 = 781) rfl rfl ?_
    refine k_iload (i := 5) dL_law_781 (rfl : 781 + 2 = 783) rfl ?_
    refine k_iconst (v := 2) dL_law_783 (rfl : 783 + 1 = 784) (by decide) ?_
    refine k_iadd dL_law_784 (rfl : 784 + 1 = 785) ?_
    refine k_sld (j := i + 2) dL_law_785 (rfl : 785 + 1 = 786) (nI_add i 2) (by omega) (by omega) ?_
    refine k_aload_n (i := 0) dL_law_786 (rfl : 786 + 1 = 787) rfl rfl ?_
    refine k_iload (i := 5) dL_law_787 (rfl : 787 + 2 = 789) rfl ?_
    refine k_iconst (v := 3) dL_law_789 (rfl : 789 + 1 = 790) (by decide) ?_
    refine k_iadd dL_law_790 (rfl : 790 + 1 = 791) ?_
    refine k_sld (j := i + 3) dL_law_791 (rfl : 791 + 1 = 792) (nI_add i 3) (by omega) (by omega) ?_
    refine k_aload_n (i := 3) dL_law_792 (rfl : 792 + 1 = 793) rfl rfl ?_
    refine k_callSTd5 cv_L_197 ⟨Nat.le_of_ble_eq_true rfl, Nat.le_of_ble_eq_true rfl⟩ hm dL_law_793 (rfl : 793 + 3 = 796) rfl (lc1 hc hs) rfl ?_
    refine k_istore (i := 6) dL_law_796 (rfl : 796 + 2 = 798) (Nat.le_of_ble_eq_true rfl) ?_
    refine k_ls (ls2 := [.ref 2000, .ref 0, .ref 116, .ref 128, .ref 129, .int (nI i), .int 0, .retAddr 0, .retAddr 0]) rfl ?_
    refine k_aload_n (i := 2) dL_law_798 (rfl : 798 + 1 = 799) rfl rfl ?_
    refine k_aload_n (i := 0) dL_law_799 (rfl : 799 + 1 = 800) rfl rfl ?_
    refine k_iload (i := 5) dL_law_800 (rfl : 800 + 2 = 802) rfl ?_
    refine k_iconst (v := 1) dL_law_802 (rfl : 802 + 1 = 803) (by decide) ?_
    refine k_iadd dL_law_803 (rfl : 803 + 1 = 804) ?_
    refine k_sld (j := i + 1) dL_law_804 (rfl : 804 + 1 = 805) (nI_add i 1) (by omega) (by omega) ?_
    refine k_aload_n (i := 0) dL_law_805 (rfl : 805 + 1 = 806) rfl rfl ?_
    refine k_iload (i := 5) dL_law_806 (rfl : 806 + 2 = 808) rfl ?_
    refine k_iconst (v := 2) dL_law_808 (rfl : 808 + 1 = 809) (by decide) ?_
    refine k_iadd dL_law_809 (rfl : 809 + 1 = 810) ?_
    refine k_sld (j := i + 2) dL_law_810 (rfl : 810 + 1 = 811) (nI_add i 2) (by omega) (by omega) ?_
    refine k_aload_n (i := 0) dL_law_811 (rfl : 811 + 1 = 812) rfl rfl ?_
    refine k_iload (i := 5) dL_law_812 (rfl : 812 + 2 = 814) rfl ?_
    refine k_iconst (v := 3) dL_law_814 (rfl : 814 + 1 = 815) (by decide) ?_
    refine k_iadd dL_law_815 (rfl : 815 + 1 = 816) ?_
    refine k_sld (j := i + 3) dL_law_816 (rfl : 816 + 1 = 817) (nI_add i 3) (by omega) (by omega) ?_
    refine k_callVd3 cv_L_200 ⟨Nat.le_of_ble_eq_true rfl, Nat.le_of_ble_eq_true rfl⟩ (m_X12_moveParty (x := y) (a1 := (xs (i + 1))) (a2 := (xs (i + 2))) (a3 := (xs (i + 3))) X.ch X.R.mv) dL_law_817 (rfl : 817 + 3 = 820) (Nat.le_of_ble_eq_true rfl) rfl rfl rfl (lc1 hc hs) ?_
    refine k_istore (i := 7) dL_law_820 (rfl : 820 + 2 = 822) (Nat.le_of_ble_eq_true rfl) ?_
    refine k_ls (ls2 := [.ref 2000, .ref 0, .ref 116, .ref 128, .ref 129, .int (nI i), .int 0, .int (f_X12_moveParty y (xs (i + 1)) (xs (i + 2)) (xs (i + 3))), .retAddr 0]) rfl ?_
    refine k_aload_n (i := 2) dL_law_822 (rfl : 822 + 1 = 823) rfl rfl ?_
    refine k_callVd0 cv_L_161 ⟨Nat.le_of_ble_eq_true rfl, Nat.le_of_ble_eq_true rfl⟩ (m_X12_thrown (x := (g_X12_moveParty y (xs (i + 1)) (xs (i + 2)) (xs (i + 3))))) dL_law_823 (rfl : 823 + 3 = 826) (Nat.le_of_ble_eq_true rfl) rfl rfl rfl (lc1 hc hs) ?_
    refine k_iload (i := 6) dL_law_826 (rfl : 826 + 2 = 828) rfl ?_
    refine k_icmp_eq (tgt := 833) dL_law_828 (rfl : 828 + 3 = 831) (by decide) (fun _ => ?_) (fun b => absurd e0 b)
    refine k_iload (i := 6) dL_law_833 (rfl : 833 + 2 = 835) rfl ?_
    refine k_if_ne (tgt := 850) dL_law_835 (rfl : 835 + 3 = 838) (by decide) (fun b => absurd b (by decide)) (fun _ => ?_)
    refine k_aload_n (i := 3) dL_law_838 (rfl : 838 + 1 = 839) rfl rfl ?_
    refine k_iconst (v := 0) dL_law_839 (rfl : 839 + 1 = 840) (by decide) ?_
    refine k_lald dL_law_840 (rfl : 840 + 1 = 841) (Nat.le_of_ble_eq_true rfl) rfl vp_00 ?_
    refine k_iload (i := 7) dL_law_841 (rfl : 841 + 2 = 843) rfl ?_
    refine k_i2l dL_law_843 (rfl : 843 + 1 = 844) ?_
    refine k_lcmp dL_law_844 (rfl : 844 + 1 = 845) ?_
    refine k_if_eq (tgt := 850) dL_law_845 (rfl : 845 + 3 = 848) (by decide) (fun _ => ?_) (fun b => absurd (lg_cmp_0.2 uL0) b)
    refine k_goto (tgt := 2815) dL_law_850 (by decide) ?_
    exact l_go go X2 (by omega) (Nat.le_refl _) (Nat.le_refl _)
  · rw [eo] at hK
    have hm := x1_L_moveParty (h2 := h4 (g_X11_moveParty x (xs (i + 1)) (xs (i + 2)) (xs (i + 3))) y f d) hK rfl
    refine k_aload_n (i := 1) dL_law_773 (rfl : 773 + 1 = 774) rfl rfl ?_
    refine k_aload_n (i := 0) dL_law_774 (rfl : 774 + 1 = 775) rfl rfl ?_
    refine k_iload (i := 5) dL_law_775 (rfl : 775 + 2 = 777) rfl ?_
    refine k_iconst (v := 1) dL_law_777 (rfl : 777 + 1 = 778) (by decide) ?_
    refine k_iadd dL_law_778 (rfl : 778 + 1 = 779) ?_
    refine k_sld (j := i + 1) dL_law_779 (rfl : 779 + 1 = 780) (nI_add i 1) (by omega) (by omega) ?_
    refine k_aload_n (i := 0) dL_law_780 (rfl : 780 + 1 = 781) rfl rfl ?_
    refine k_iload (i := 5) dL_law_781 (rfl : 781 + 2 = 783) rfl ?_
    refine k_iconst (v := 2) dL_law_783 (rfl : 783 + 1 = 784) (by decide) ?_
    refine k_iadd dL_law_784 (rfl : 784 + 1 = 785) ?_
    refine k_sld (j := i + 2) dL_law_785 (rfl : 785 + 1 = 786) (nI_add i 2) (by omega) (by omega) ?_
    refine k_aload_n (i := 0) dL_law_786 (rfl : 786 + 1 = 787) rfl rfl ?_
    refine k_iload (i := 5) dL_law_787 (rfl : 787 + 2 = 789) rfl ?_
    refine k_iconst (v := 3) dL_law_789 (rfl : 789 + 1 = 790) (by decide) ?_
    refine k_iadd dL_law_790 (rfl : 790 + 1 = 791) ?_
    refine k_sld (j := i + 3) dL_law_791 (rfl : 791 + 1 = 792) (nI_add i 3) (by omega) (by omega) ?_
    refine k_aload_n (i := 3) dL_law_792 (rfl : 792 + 1 = 793) rfl rfl ?_
    refine k_callSTd5 cv_L_197 ⟨Nat.le_of_ble_eq_true rfl, Nat.le_of_ble_eq_true rfl⟩ hm dL_law_793 (rfl : 793 + 3 = 796) rfl (lc1 hc hs) rfl ?_
    refine k_istore (i := 6) dL_law_796 (rfl : 796 + 2 = 798) (Nat.le_of_ble_eq_true rfl) ?_
    refine k_ls (ls2 := [.ref 2000, .ref 0, .ref 116, .ref 128, .ref 129, .int (nI i), .int 1, .retAddr 0, .retAddr 0]) rfl ?_
    refine k_aload_n (i := 2) dL_law_798 (rfl : 798 + 1 = 799) rfl rfl ?_
    refine k_aload_n (i := 0) dL_law_799 (rfl : 799 + 1 = 800) rfl rfl ?_
    refine k_iload (i := 5) dL_law_800 (rfl : 800 + 2 = 802) rfl ?_
    refine k_iconst (v := 1) dL_law_802 (rfl : 802 + 1 = 803) (by decide) ?_
    refine k_iadd dL_law_803 (rfl : 803 + 1 = 804) ?_
    refine k_sld (j := i + 1) dL_law_804 (rfl : 804 + 1 = 805) (nI_add i 1) (by omega) (by omega) ?_
    refine k_aload_n (i := 0) dL_law_805 (rfl : 805 + 1 = 806) rfl rfl ?_
    refine k_iload (i := 5) dL_law_806 (rfl : 806 + 2 = 808) rfl ?_
    refine k_iconst (v := 2) dL_law_808 (rfl : 808 + 1 = 809) (by decide) ?_
    refine k_iadd dL_law_809 (rfl : 809 + 1 = 810) ?_
    refine k_sld (j := i + 2) dL_law_810 (rfl : 810 + 1 = 811) (nI_add i 2) (by omega) (by omega) ?_
    refine k_aload_n (i := 0) dL_law_811 (rfl : 811 + 1 = 812) rfl rfl ?_
    refine k_iload (i := 5) dL_law_812 (rfl : 812 + 2 = 814) rfl ?_
    refine k_iconst (v := 3) dL_law_814 (rfl : 814 + 1 = 815) (by decide) ?_
    refine k_iadd dL_law_815 (rfl : 815 + 1 = 816) ?_
    refine k_sld (j := i + 3) dL_law_816 (rfl : 816 + 1 = 817) (nI_add i 3) (by omega) (by omega) ?_
    refine k_callVd3 cv_L_200 ⟨Nat.le_of_ble_eq_true rfl, Nat.le_of_ble_eq_true rfl⟩ (m_X12_moveParty (x := y) (a1 := (xs (i + 1))) (a2 := (xs (i + 2))) (a3 := (xs (i + 3))) X.ch X.R.mv) dL_law_817 (rfl : 817 + 3 = 820) (Nat.le_of_ble_eq_true rfl) rfl rfl rfl (lc1 hc hs) ?_
    refine k_istore (i := 7) dL_law_820 (rfl : 820 + 2 = 822) (Nat.le_of_ble_eq_true rfl) ?_
    refine k_ls (ls2 := [.ref 2000, .ref 0, .ref 116, .ref 128, .ref 129, .int (nI i), .int 1, .int (f_X12_moveParty y (xs (i + 1)) (xs (i + 2)) (xs (i + 3))), .retAddr 0]) rfl ?_
    refine k_aload_n (i := 2) dL_law_822 (rfl : 822 + 1 = 823) rfl rfl ?_
    refine k_callVd0 cv_L_161 ⟨Nat.le_of_ble_eq_true rfl, Nat.le_of_ble_eq_true rfl⟩ (m_X12_thrown (x := (g_X12_moveParty y (xs (i + 1)) (xs (i + 2)) (xs (i + 3))))) dL_law_823 (rfl : 823 + 3 = 826) (Nat.le_of_ble_eq_true rfl) rfl rfl rfl (lc1 hc hs) ?_
    refine k_iload (i := 6) dL_law_826 (rfl : 826 + 2 = 828) rfl ?_
    refine k_icmp_eq (tgt := 833) dL_law_828 (rfl : 828 + 3 = 831) (by decide) (fun _ => ?_) (fun b => absurd e0 b)
    refine k_iload (i := 6) dL_law_833 (rfl : 833 + 2 = 835) rfl ?_
    refine k_if_ne (tgt := 850) dL_law_835 (rfl : 835 + 3 = 838) (by decide) (fun _ => ?_) (fun b => absurd b (by decide))
    refine k_goto (tgt := 2815) dL_law_850 (by decide) ?_
    exact l_go go X2 (by omega) (Nat.le_refl _) (Nat.le_refl _)
  · rw [eo] at hK
    have hm := x2_L_moveParty (h2 := h4 (g_X11_moveParty x (xs (i + 1)) (xs (i + 2)) (xs (i + 3))) y f d) hK rfl
    refine k_aload_n (i := 1) dL_law_773 (rfl : 773 + 1 = 774) rfl rfl ?_
    refine k_aload_n (i := 0) dL_law_774 (rfl : 774 + 1 = 775) rfl rfl ?_
    refine k_iload (i := 5) dL_law_775 (rfl : 775 + 2 = 777) rfl ?_
    refine k_iconst (v := 1) dL_law_777 (rfl : 777 + 1 = 778) (by decide) ?_
    refine k_iadd dL_law_778 (rfl : 778 + 1 = 779) ?_
    refine k_sld (j := i + 1) dL_law_779 (rfl : 779 + 1 = 780) (nI_add i 1) (by omega) (by omega) ?_
    refine k_aload_n (i := 0) dL_law_780 (rfl : 780 + 1 = 781) rfl rfl ?_
    refine k_iload (i := 5) dL_law_781 (rfl : 781 + 2 = 783) rfl ?_
    refine k_iconst (v := 2) dL_law_783 (rfl : 783 + 1 = 784) (by decide) ?_
    refine k_iadd dL_law_784 (rfl : 784 + 1 = 785) ?_
    refine k_sld (j := i + 2) dL_law_785 (rfl : 785 + 1 = 786) (nI_add i 2) (by omega) (by omega) ?_
    refine k_aload_n (i := 0) dL_law_786 (rfl : 786 + 1 = 787) rfl rfl ?_
    refine k_iload (i := 5) dL_law_787 (rfl : 787 + 2 = 789) rfl ?_
    refine k_iconst (v := 3) dL_law_789 (rfl : 789 + 1 = 790) (by decide) ?_
    refine k_iadd dL_law_790 (rfl : 790 + 1 = 791) ?_
    refine k_sld (j := i + 3) dL_law_791 (rfl : 791 + 1 = 792) (nI_add i 3) (by omega) (by omega) ?_
    refine k_aload_n (i := 3) dL_law_792 (rfl : 792 + 1 = 793) rfl rfl ?_
    refine k_callSTd5 cv_L_197 ⟨Nat.le_of_ble_eq_true rfl, Nat.le_of_ble_eq_true rfl⟩ hm dL_law_793 (rfl : 793 + 3 = 796) rfl (lc1 hc hs) rfl ?_
    refine k_istore (i := 6) dL_law_796 (rfl : 796 + 2 = 798) (Nat.le_of_ble_eq_true rfl) ?_
    refine k_ls (ls2 := [.ref 2000, .ref 0, .ref 116, .ref 128, .ref 129, .int (nI i), .int 2, .retAddr 0, .retAddr 0]) rfl ?_
    refine k_aload_n (i := 2) dL_law_798 (rfl : 798 + 1 = 799) rfl rfl ?_
    refine k_aload_n (i := 0) dL_law_799 (rfl : 799 + 1 = 800) rfl rfl ?_
    refine k_iload (i := 5) dL_law_800 (rfl : 800 + 2 = 802) rfl ?_
    refine k_iconst (v := 1) dL_law_802 (rfl : 802 + 1 = 803) (by decide) ?_
    refine k_iadd dL_law_803 (rfl : 803 + 1 = 804) ?_
    refine k_sld (j := i + 1) dL_law_804 (rfl : 804 + 1 = 805) (nI_add i 1) (by omega) (by omega) ?_
    refine k_aload_n (i := 0) dL_law_805 (rfl : 805 + 1 = 806) rfl rfl ?_
    refine k_iload (i := 5) dL_law_806 (rfl : 806 + 2 = 808) rfl ?_
    refine k_iconst (v := 2) dL_law_808 (rfl : 808 + 1 = 809) (by decide) ?_
    refine k_iadd dL_law_809 (rfl : 809 + 1 = 810) ?_
    refine k_sld (j := i + 2) dL_law_810 (rfl : 810 + 1 = 811) (nI_add i 2) (by omega) (by omega) ?_
    refine k_aload_n (i := 0) dL_law_811 (rfl : 811 + 1 = 812) rfl rfl ?_
    refine k_iload (i := 5) dL_law_812 (rfl : 812 + 2 = 814) rfl ?_
    refine k_iconst (v := 3) dL_law_814 (rfl : 814 + 1 = 815) (by decide) ?_
    refine k_iadd dL_law_815 (rfl : 815 + 1 = 816) ?_
    refine k_sld (j := i + 3) dL_law_816 (rfl : 816 + 1 = 817) (nI_add i 3) (by omega) (by omega) ?_
    refine k_callVd3 cv_L_200 ⟨Nat.le_of_ble_eq_true rfl, Nat.le_of_ble_eq_true rfl⟩ (m_X12_moveParty (x := y) (a1 := (xs (i + 1))) (a2 := (xs (i + 2))) (a3 := (xs (i + 3))) X.ch X.R.mv) dL_law_817 (rfl : 817 + 3 = 820) (Nat.le_of_ble_eq_true rfl) rfl rfl rfl (lc1 hc hs) ?_
    refine k_istore (i := 7) dL_law_820 (rfl : 820 + 2 = 822) (Nat.le_of_ble_eq_true rfl) ?_
    refine k_ls (ls2 := [.ref 2000, .ref 0, .ref 116, .ref 128, .ref 129, .int (nI i), .int 2, .int (f_X12_moveParty y (xs (i + 1)) (xs (i + 2)) (xs (i + 3))), .retAddr 0]) rfl ?_
    refine k_aload_n (i := 2) dL_law_822 (rfl : 822 + 1 = 823) rfl rfl ?_
    refine k_callVd0 cv_L_161 ⟨Nat.le_of_ble_eq_true rfl, Nat.le_of_ble_eq_true rfl⟩ (m_X12_thrown (x := (g_X12_moveParty y (xs (i + 1)) (xs (i + 2)) (xs (i + 3))))) dL_law_823 (rfl : 823 + 3 = 826) (Nat.le_of_ble_eq_true rfl) rfl rfl rfl (lc1 hc hs) ?_
    refine k_iload (i := 6) dL_law_826 (rfl : 826 + 2 = 828) rfl ?_
    refine k_icmp_eq (tgt := 833) dL_law_828 (rfl : 828 + 3 = 831) (by decide) (fun _ => ?_) (fun b => absurd e0 b)
    refine k_iload (i := 6) dL_law_833 (rfl : 833 + 2 = 835) rfl ?_
    refine k_if_ne (tgt := 850) dL_law_835 (rfl : 835 + 3 = 838) (by decide) (fun _ => ?_) (fun b => absurd b (by decide))
    refine k_goto (tgt := 2815) dL_law_850 (by decide) ?_
    exact l_go go X2 (by omega) (Nat.le_refl _) (Nat.le_refl _)
set_option maxRecDepth 100000 in
set_option maxHeartbeats 4000000 in
theorem lcs_11 {nm : String} {tb : List (Nat × Nat × Nat × Nat)} {b L i t cs ss : Nat} {xs : Nat → Int32} {x : kK} {y : kY} {f : Nat → Int64} {d : Nat → UInt64} (X : RX t x y) (ht : t + 11 < 2 ^ 20) (hi : i + 4 ≤ L) (hL : L ≤ 2048) (hc : cs + 1 ≤ 603072) (hs : ss + 6 ≤ 7182442) (go : LG nm tb b L xs i (t + 11) (cs + 1) (ss + 6)) : kEv (kLw nm tb) RW (FL b L xs) false 853 [.ref 2000, .ref 0, .ref 116, .ref 128, .ref 129, .int (nI i), .retAddr 0, .retAddr 0, .retAddr 0] [] (h4 x y f d) 130 cs ss := by
  obtain ⟨X2, qe, -⟩ := q_partyCount X
  refine k_aload_n (i := 1) dL_law_853 (rfl : 853 + 1 = 854) rfl rfl ?_
  refine k_callVd0 cv_L_201 ⟨Nat.le_of_ble_eq_true rfl, Nat.le_of_ble_eq_true rfl⟩ (m_X11_partyCount (x := x)) dL_law_854 (rfl : 854 + 3 = 857) (Nat.le_of_ble_eq_true rfl) rfl rfl rfl (lc0 hc hs) ?_
  refine k_aload_n (i := 2) dL_law_857 (rfl : 857 + 1 = 858) rfl rfl ?_
  refine k_callVd0 cv_L_204 ⟨Nat.le_of_ble_eq_true rfl, Nat.le_of_ble_eq_true rfl⟩ (m_X12_partyCount (x := y)) dL_law_858 (rfl : 858 + 3 = 861) (Nat.le_of_ble_eq_true rfl) rfl rfl rfl (lc0 hc hs) ?_
  refine k_icmp_eq (tgt := 2815) dL_law_861 (rfl : 861 + 3 = 864) (by decide) (fun _ => ?_) (fun b => absurd qe b)
  exact l_go go X2 (by omega) (show cs ≤ cs + 1 by omega) (show ss ≤ ss + 6 by omega)
set_option maxRecDepth 100000 in
set_option maxHeartbeats 4000000 in
theorem lcs_12 {nm : String} {tb : List (Nat × Nat × Nat × Nat)} {b L i t cs ss : Nat} {xs : Nat → Int32} {x : kK} {y : kY} {f : Nat → Int64} {d : Nat → UInt64} (X : RX t x y) (ht : t + 11 < 2 ^ 20) (hi : i + 4 ≤ L) (hL : L ≤ 2048) (hc : cs + 1 ≤ 603072) (hs : ss + 6 ≤ 7182442) (go : LG nm tb b L xs i (t + 11) (cs + 1) (ss + 6)) : kEv (kLw nm tb) RW (FL b L xs) false 866 [.ref 2000, .ref 0, .ref 116, .ref 128, .ref 129, .int (nI i), .retAddr 0, .retAddr 0, .retAddr 0] [] (h4 x y f d) 130 cs ss := by
  obtain ⟨X2, alt⟩ := q_cellOf X (a := (xs (i + 1)))
  have hK := m_X11_cellOf (x := x) (r := kHr y (kJ 1 f, kDb 1 d)) (a1 := (xs (i + 1))) X.R.iv
  rcases alt with ⟨eo, e0⟩ | ⟨eo, e0⟩
  · rw [eo] at hK
    have hm := v_L_cellOf (h2 := h4 x y f d) hK rfl rfl
    rw [h4_f] at hm
    refine k_aload_n (i := 1) dL_law_866 (rfl : 866 + 1 = 867) rfl rfl ?_
    refine k_aload_n (i := 0) dL_law_867 (rfl : 867 + 1 = 868) rfl rfl ?_
    refine k_iload (i := 5) dL_law_868 (rfl : 868 + 2 = 870) rfl ?_
    refine k_iconst (v := 1) dL_law_870 (rfl : 870 + 1 = 871) (by decide) ?_
    refine k_iadd dL_law_871 (rfl : 871 + 1 = 872) ?_
    refine k_sld (j := i + 1) dL_law_872 (rfl : 872 + 1 = 873) (nI_add i 1) (by omega) (by omega) ?_
    refine k_aload_n (i := 3) dL_law_873 (rfl : 873 + 1 = 874) rfl rfl ?_
    refine k_callSTd3 cv_L_205 ⟨Nat.le_of_ble_eq_true rfl, Nat.le_of_ble_eq_true rfl⟩ hm dL_law_874 (rfl : 874 + 3 = 877) rfl (lc1 hc hs) rfl ?_
    refine k_istore (i := 6) dL_law_877 (rfl : 877 + 2 = 879) (Nat.le_of_ble_eq_true rfl) ?_
    refine k_ls (ls2 := [.ref 2000, .ref 0, .ref 116, .ref 128, .ref 129, .int (nI i), .int 0, .retAddr 0, .retAddr 0]) rfl ?_
    refine k_aload_n (i := 2) dL_law_879 (rfl : 879 + 1 = 880) rfl rfl ?_
    refine k_aload_n (i := 0) dL_law_880 (rfl : 880 + 1 = 881) rfl rfl ?_
    refine k_iload (i := 5) dL_law_881 (rfl : 881 + 2 = 883) rfl ?_
    refine k_iconst (v := 1) dL_law_883 (rfl : 883 + 1 = 884) (by decide) ?_
    refine k_iadd dL_law_884 (rfl : 884 + 1 = 885) ?_
    refine k_sld (j := i + 1) dL_law_885 (rfl : 885 + 1 = 886) (nI_add i 1) (by omega) (by omega) ?_
    refine k_callVd1 cv_L_208 ⟨Nat.le_of_ble_eq_true rfl, Nat.le_of_ble_eq_true rfl⟩ (m_X12_cellOf (x := y) (a1 := (xs (i + 1))) X.R.mv) dL_law_886 (rfl : 886 + 3 = 889) (Nat.le_of_ble_eq_true rfl) rfl rfl rfl (lc1 hc hs) ?_
    refine k_istore (i := 7) dL_law_889 (rfl : 889 + 2 = 891) (Nat.le_of_ble_eq_true rfl) ?_
    refine k_ls (ls2 := [.ref 2000, .ref 0, .ref 116, .ref 128, .ref 129, .int (nI i), .int 0, .int (f_X12_cellOf y (xs (i + 1))), .retAddr 0]) rfl ?_
    refine k_aload_n (i := 2) dL_law_891 (rfl : 891 + 1 = 892) rfl rfl ?_
    refine k_callVd0 cv_L_161 ⟨Nat.le_of_ble_eq_true rfl, Nat.le_of_ble_eq_true rfl⟩ (m_X12_thrown (x := (g_X12_cellOf y (xs (i + 1))))) dL_law_892 (rfl : 892 + 3 = 895) (Nat.le_of_ble_eq_true rfl) rfl rfl rfl (lc1 hc hs) ?_
    refine k_iload (i := 6) dL_law_895 (rfl : 895 + 2 = 897) rfl ?_
    refine k_icmp_eq (tgt := 902) dL_law_897 (rfl : 897 + 3 = 900) (by decide) (fun _ => ?_) (fun b => absurd e0 b)
    refine k_iload (i := 6) dL_law_902 (rfl : 902 + 2 = 904) rfl ?_
    refine k_if_ne (tgt := 919) dL_law_904 (rfl : 904 + 3 = 907) (by decide) (fun b => absurd b (by decide)) (fun _ => ?_)
    refine k_aload_n (i := 3) dL_law_907 (rfl : 907 + 1 = 908) rfl rfl ?_
    refine k_iconst (v := 0) dL_law_908 (rfl : 908 + 1 = 909) (by decide) ?_
    refine k_lald dL_law_909 (rfl : 909 + 1 = 910) (Nat.le_of_ble_eq_true rfl) rfl vp_00 ?_
    refine k_iload (i := 7) dL_law_910 (rfl : 910 + 2 = 912) rfl ?_
    refine k_i2l dL_law_912 (rfl : 912 + 1 = 913) ?_
    refine k_lcmp dL_law_913 (rfl : 913 + 1 = 914) ?_
    refine k_if_eq (tgt := 919) dL_law_914 (rfl : 914 + 3 = 917) (by decide) (fun _ => ?_) (fun b => absurd (lg_cmp_0.2 uL0) b)
    refine k_goto (tgt := 2815) dL_law_919 (by decide) ?_
    exact l_go go X2 (by omega) (Nat.le_refl _) (Nat.le_refl _)
  · rw [eo] at hK
    have hm := x1_L_cellOf (h2 := h4 x y f d) hK rfl
    refine k_aload_n (i := 1) dL_law_866 (rfl : 866 + 1 = 867) rfl rfl ?_
    refine k_aload_n (i := 0) dL_law_867 (rfl : 867 + 1 = 868) rfl rfl ?_
    refine k_iload (i := 5) dL_law_868 (rfl : 868 + 2 = 870) rfl ?_
    refine k_iconst (v := 1) dL_law_870 (rfl : 870 + 1 = 871) (by decide) ?_
    refine k_iadd dL_law_871 (rfl : 871 + 1 = 872) ?_
    refine k_sld (j := i + 1) dL_law_872 (rfl : 872 + 1 = 873) (nI_add i 1) (by omega) (by omega) ?_
    refine k_aload_n (i := 3) dL_law_873 (rfl : 873 + 1 = 874) rfl rfl ?_
    refine k_callSTd3 cv_L_205 ⟨Nat.le_of_ble_eq_true rfl, Nat.le_of_ble_eq_true rfl⟩ hm dL_law_874 (rfl : 874 + 3 = 877) rfl (lc1 hc hs) rfl ?_
    refine k_istore (i := 6) dL_law_877 (rfl : 877 + 2 = 879) (Nat.le_of_ble_eq_true rfl) ?_
    refine k_ls (ls2 := [.ref 2000, .ref 0, .ref 116, .ref 128, .ref 129, .int (nI i), .int 1, .retAddr 0, .retAddr 0]) rfl ?_
    refine k_aload_n (i := 2) dL_law_879 (rfl : 879 + 1 = 880) rfl rfl ?_
    refine k_aload_n (i := 0) dL_law_880 (rfl : 880 + 1 = 881) rfl rfl ?_
    refine k_iload (i := 5) dL_law_881 (rfl : 881 + 2 = 883) rfl ?_
    refine k_iconst (v := 1) dL_law_883 (rfl : 883 + 1 = 884) (by decide) ?_
    refine k_iadd dL_law_884 (rfl : 884 + 1 = 885) ?_
    refine k_sld (j := i + 1) dL_law_885 (rfl : 885 + 1 = 886) (nI_add i 1) (by omega) (by omega) ?_
    refine k_callVd1 cv_L_208 ⟨Nat.le_of_ble_eq_true rfl, Nat.le_of_ble_eq_true rfl⟩ (m_X12_cellOf (x := y) (a1 := (xs (i + 1))) X.R.mv) dL_law_886 (rfl : 886 + 3 = 889) (Nat.le_of_ble_eq_true rfl) rfl rfl rfl (lc1 hc hs) ?_
    refine k_istore (i := 7) dL_law_889 (rfl : 889 + 2 = 891) (Nat.le_of_ble_eq_true rfl) ?_
    refine k_ls (ls2 := [.ref 2000, .ref 0, .ref 116, .ref 128, .ref 129, .int (nI i), .int 1, .int (f_X12_cellOf y (xs (i + 1))), .retAddr 0]) rfl ?_
    refine k_aload_n (i := 2) dL_law_891 (rfl : 891 + 1 = 892) rfl rfl ?_
    refine k_callVd0 cv_L_161 ⟨Nat.le_of_ble_eq_true rfl, Nat.le_of_ble_eq_true rfl⟩ (m_X12_thrown (x := (g_X12_cellOf y (xs (i + 1))))) dL_law_892 (rfl : 892 + 3 = 895) (Nat.le_of_ble_eq_true rfl) rfl rfl rfl (lc1 hc hs) ?_
    refine k_iload (i := 6) dL_law_895 (rfl : 895 + 2 = 897) rfl ?_
    refine k_icmp_eq (tgt := 902) dL_law_897 (rfl : 897 + 3 = 900) (by decide) (fun _ => ?_) (fun b => absurd e0 b)
    refine k_iload (i := 6) dL_law_902 (rfl : 902 + 2 = 904) rfl ?_
    refine k_if_ne (tgt := 919) dL_law_904 (rfl : 904 + 3 = 907) (by decide) (fun _ => ?_) (fun b => absurd b (by decide))
    refine k_goto (tgt := 2815) dL_law_919 (by decide) ?_
    exact l_go go X2 (by omega) (Nat.le_refl _) (Nat.le_refl _)
set_option maxRecDepth 100000 in
set_option maxHeartbeats 4000000 in
theorem lcs_13 {nm : String} {tb : List (Nat × Nat × Nat × Nat)} {b L i t cs ss : Nat} {xs : Nat → Int32} {x : kK} {y : kY} {f : Nat → Int64} {d : Nat → UInt64} (X : RX t x y) (ht : t + 11 < 2 ^ 20) (hi : i + 4 ≤ L) (hL : L ≤ 2048) (hc : cs + 1 ≤ 603072) (hs : ss + 6 ≤ 7182442) (go : LG nm tb b L xs i (t + 11) (cs + 1) (ss + 6)) : kEv (kLw nm tb) RW (FL b L xs) false 922 [.ref 2000, .ref 0, .ref 116, .ref 128, .ref 129, .int (nI i), .retAddr 0, .retAddr 0, .retAddr 0] [] (h4 x y f d) 130 cs ss := by
  obtain ⟨X2, alt⟩ := q_partyIn X (a := (xs (i + 1))) (b := (xs (i + 2)))
  have hK := m_X11_partyIn (x := x) (r := kHr y (kJ 1 f, kDb 1 d)) (a1 := (xs (i + 1))) (a2 := (xs (i + 2))) X.R.iv
  rcases alt with ⟨eo, e0⟩ | ⟨eo, e0⟩ | ⟨eo, e0⟩
  · rw [eo] at hK
    have hm := v_L_partyIn (h2 := h4 x y f d) hK rfl rfl
    rw [h4_f] at hm
    refine k_aload_n (i := 1) dL_law_922 (rfl : 922 + 1 = 923) rfl rfl ?_
    refine k_aload_n (i := 0) dL_law_923 (rfl : 923 + 1 = 924) rfl rfl ?_
    refine k_iload (i := 5) dL_law_924 (rfl : 924 + 2 = 926) rfl ?_
    refine k_iconst (v := 1) dL_law_926 (rfl : 926 + 1 = 927) (by decide) ?_
    refine k_iadd dL_law_927 (rfl : 927 + 1 = 928) ?_
    refine k_sld (j := i + 1) dL_law_928 (rfl : 928 + 1 = 929) (nI_add i 1) (by omega) (by omega) ?_
    refine k_aload_n (i := 0) dL_law_929 (rfl : 929 + 1 = 930) rfl rfl ?_
    refine k_iload (i := 5) dL_law_930 (rfl : 930 + 2 = 932) rfl ?_
    refine k_iconst (v := 2) dL_law_932 (rfl : 932 + 1 = 933) (by decide) ?_
    refine k_iadd dL_law_933 (rfl : 933 + 1 = 934) ?_
    refine k_sld (j := i + 2) dL_law_934 (rfl : 934 + 1 = 935) (nI_add i 2) (by omega) (by omega) ?_
    refine k_aload_n (i := 3) dL_law_935 (rfl : 935 + 1 = 936) rfl rfl ?_
    refine k_callSTd4 cv_L_209 ⟨Nat.le_of_ble_eq_true rfl, Nat.le_of_ble_eq_true rfl⟩ hm dL_law_936 (rfl : 936 + 3 = 939) rfl (lc1 hc hs) rfl ?_
    refine k_istore (i := 6) dL_law_939 (rfl : 939 + 2 = 941) (Nat.le_of_ble_eq_true rfl) ?_
    refine k_ls (ls2 := [.ref 2000, .ref 0, .ref 116, .ref 128, .ref 129, .int (nI i), .int 0, .retAddr 0, .retAddr 0]) rfl ?_
    refine k_aload_n (i := 2) dL_law_941 (rfl : 941 + 1 = 942) rfl rfl ?_
    refine k_aload_n (i := 0) dL_law_942 (rfl : 942 + 1 = 943) rfl rfl ?_
    refine k_iload (i := 5) dL_law_943 (rfl : 943 + 2 = 945) rfl ?_
    refine k_iconst (v := 1) dL_law_945 (rfl : 945 + 1 = 946) (by decide) ?_
    refine k_iadd dL_law_946 (rfl : 946 + 1 = 947) ?_
    refine k_sld (j := i + 1) dL_law_947 (rfl : 947 + 1 = 948) (nI_add i 1) (by omega) (by omega) ?_
    refine k_aload_n (i := 0) dL_law_948 (rfl : 948 + 1 = 949) rfl rfl ?_
    refine k_iload (i := 5) dL_law_949 (rfl : 949 + 2 = 951) rfl ?_
    refine k_iconst (v := 2) dL_law_951 (rfl : 951 + 1 = 952) (by decide) ?_
    refine k_iadd dL_law_952 (rfl : 952 + 1 = 953) ?_
    refine k_sld (j := i + 2) dL_law_953 (rfl : 953 + 1 = 954) (nI_add i 2) (by omega) (by omega) ?_
    refine k_callVd2 cv_L_211 ⟨Nat.le_of_ble_eq_true rfl, Nat.le_of_ble_eq_true rfl⟩ (m_X12_partyIn (x := y) (a1 := (xs (i + 1))) (a2 := (xs (i + 2))) X.R.mv) dL_law_954 (rfl : 954 + 3 = 957) (Nat.le_of_ble_eq_true rfl) rfl rfl rfl (lc1 hc hs) ?_
    refine k_istore (i := 7) dL_law_957 (rfl : 957 + 2 = 959) (Nat.le_of_ble_eq_true rfl) ?_
    refine k_ls (ls2 := [.ref 2000, .ref 0, .ref 116, .ref 128, .ref 129, .int (nI i), .int 0, .int (f_X12_partyIn y (xs (i + 1)) (xs (i + 2))), .retAddr 0]) rfl ?_
    refine k_aload_n (i := 2) dL_law_959 (rfl : 959 + 1 = 960) rfl rfl ?_
    refine k_callVd0 cv_L_161 ⟨Nat.le_of_ble_eq_true rfl, Nat.le_of_ble_eq_true rfl⟩ (m_X12_thrown (x := (g_X12_partyIn y (xs (i + 1)) (xs (i + 2))))) dL_law_960 (rfl : 960 + 3 = 963) (Nat.le_of_ble_eq_true rfl) rfl rfl rfl (lc1 hc hs) ?_
    refine k_iload (i := 6) dL_law_963 (rfl : 963 + 2 = 965) rfl ?_
    refine k_icmp_eq (tgt := 970) dL_law_965 (rfl : 965 + 3 = 968) (by decide) (fun _ => ?_) (fun b => absurd e0 b)
    refine k_iload (i := 6) dL_law_970 (rfl : 970 + 2 = 972) rfl ?_
    refine k_if_ne (tgt := 987) dL_law_972 (rfl : 972 + 3 = 975) (by decide) (fun b => absurd b (by decide)) (fun _ => ?_)
    refine k_aload_n (i := 3) dL_law_975 (rfl : 975 + 1 = 976) rfl rfl ?_
    refine k_iconst (v := 0) dL_law_976 (rfl : 976 + 1 = 977) (by decide) ?_
    refine k_lald dL_law_977 (rfl : 977 + 1 = 978) (Nat.le_of_ble_eq_true rfl) rfl vp_00 ?_
    refine k_iload (i := 7) dL_law_978 (rfl : 978 + 2 = 980) rfl ?_
    refine k_i2l dL_law_980 (rfl : 980 + 1 = 981) ?_
    refine k_lcmp dL_law_981 (rfl : 981 + 1 = 982) ?_
    refine k_if_eq (tgt := 987) dL_law_982 (rfl : 982 + 3 = 985) (by decide) (fun _ => ?_) (fun b => absurd (lg_cmp_0.2 uL0) b)
    refine k_goto (tgt := 2815) dL_law_987 (by decide) ?_
    exact l_go go X2 (by omega) (Nat.le_refl _) (Nat.le_refl _)
  · rw [eo] at hK
    have hm := x1_L_partyIn (h2 := h4 x y f d) hK rfl
    refine k_aload_n (i := 1) dL_law_922 (rfl : 922 + 1 = 923) rfl rfl ?_
    refine k_aload_n (i := 0) dL_law_923 (rfl : 923 + 1 = 924) rfl rfl ?_
    refine k_iload (i := 5) dL_law_924 (rfl : 924 + 2 = 926) rfl ?_
    refine k_iconst (v := 1) dL_law_926 (rfl : 926 + 1 = 927) (by decide) ?_
    refine k_iadd dL_law_927 (rfl : 927 + 1 = 928) ?_
    refine k_sld (j := i + 1) dL_law_928 (rfl : 928 + 1 = 929) (nI_add i 1) (by omega) (by omega) ?_
    refine k_aload_n (i := 0) dL_law_929 (rfl : 929 + 1 = 930) rfl rfl ?_
    refine k_iload (i := 5) dL_law_930 (rfl : 930 + 2 = 932) rfl ?_
    refine k_iconst (v := 2) dL_law_932 (rfl : 932 + 1 = 933) (by decide) ?_
    refine k_iadd dL_law_933 (rfl : 933 + 1 = 934) ?_
    refine k_sld (j := i + 2) dL_law_934 (rfl : 934 + 1 = 935) (nI_add i 2) (by omega) (by omega) ?_
    refine k_aload_n (i := 3) dL_law_935 (rfl : 935 + 1 = 936) rfl rfl ?_
    refine k_callSTd4 cv_L_209 ⟨Nat.le_of_ble_eq_true rfl, Nat.le_of_ble_eq_true rfl⟩ hm dL_law_936 (rfl : 936 + 3 = 939) rfl (lc1 hc hs) rfl ?_
    refine k_istore (i := 6) dL_law_939 (rfl : 939 + 2 = 941) (Nat.le_of_ble_eq_true rfl) ?_
    refine k_ls (ls2 := [.ref 2000, .ref 0, .ref 116, .ref 128, .ref 129, .int (nI i), .int 1, .retAddr 0, .retAddr 0]) rfl ?_
    refine k_aload_n (i := 2) dL_law_941 (rfl : 941 + 1 = 942) rfl rfl ?_
    refine k_aload_n (i := 0) dL_law_942 (rfl : 942 + 1 = 943) rfl rfl ?_
    refine k_iload (i := 5) dL_law_943 (rfl : 943 + 2 = 945) rfl ?_
    refine k_iconst (v := 1) dL_law_945 (rfl : 945 + 1 = 946) (by decide) ?_
    refine k_iadd dL_law_946 (rfl : 946 + 1 = 947) ?_
    refine k_sld (j := i + 1) dL_law_947 (rfl : 947 + 1 = 948) (nI_add i 1) (by omega) (by omega) ?_
    refine k_aload_n (i := 0) dL_law_948 (rfl : 948 + 1 = 949) rfl rfl ?_
    refine k_iload (i := 5) dL_law_949 (rfl : 949 + 2 = 951) rfl ?_
    refine k_iconst (v := 2) dL_law_951 (rfl : 951 + 1 = 952) (by decide) ?_
    refine k_iadd dL_law_952 (rfl : 952 + 1 = 953) ?_
    refine k_sld (j := i + 2) dL_law_953 (rfl : 953 + 1 = 954) (nI_add i 2) (by omega) (by omega) ?_
    refine k_callVd2 cv_L_211 ⟨Nat.le_of_ble_eq_true rfl, Nat.le_of_ble_eq_true rfl⟩ (m_X12_partyIn (x := y) (a1 := (xs (i + 1))) (a2 := (xs (i + 2))) X.R.mv) dL_law_954 (rfl : 954 + 3 = 957) (Nat.le_of_ble_eq_true rfl) rfl rfl rfl (lc1 hc hs) ?_
    refine k_istore (i := 7) dL_law_957 (rfl : 957 + 2 = 959) (Nat.le_of_ble_eq_true rfl) ?_
    refine k_ls (ls2 := [.ref 2000, .ref 0, .ref 116, .ref 128, .ref 129, .int (nI i), .int 1, .int (f_X12_partyIn y (xs (i + 1)) (xs (i + 2))), .retAddr 0]) rfl ?_
    refine k_aload_n (i := 2) dL_law_959 (rfl : 959 + 1 = 960) rfl rfl ?_
    refine k_callVd0 cv_L_161 ⟨Nat.le_of_ble_eq_true rfl, Nat.le_of_ble_eq_true rfl⟩ (m_X12_thrown (x := (g_X12_partyIn y (xs (i + 1)) (xs (i + 2))))) dL_law_960 (rfl : 960 + 3 = 963) (Nat.le_of_ble_eq_true rfl) rfl rfl rfl (lc1 hc hs) ?_
    refine k_iload (i := 6) dL_law_963 (rfl : 963 + 2 = 965) rfl ?_
    refine k_icmp_eq (tgt := 970) dL_law_965 (rfl : 965 + 3 = 968) (by decide) (fun _ => ?_) (fun b => absurd e0 b)
    refine k_iload (i := 6) dL_law_970 (rfl : 970 + 2 = 972) rfl ?_
    refine k_if_ne (tgt := 987) dL_law_972 (rfl : 972 + 3 = 975) (by decide) (fun _ => ?_) (fun b => absurd b (by decide))
    refine k_goto (tgt := 2815) dL_law_987 (by decide) ?_
    exact l_go go X2 (by omega) (Nat.le_refl _) (Nat.le_refl _)
  · rw [eo] at hK
    have hm := x2_L_partyIn (h2 := h4 x y f d) hK rfl
    refine k_aload_n (i := 1) dL_law_922 (rfl : 922 + 1 = 923) rfl rfl ?_
    refine k_aload_n (i := 0) dL_law_923 (rfl : 923 + 1 = 924) rfl rfl ?_
    refine k_iload (i := 5) dL_law_924 (rfl : 924 + 2 = 926) rfl ?_
    refine k_iconst (v := 1) dL_law_926 (rfl : 926 + 1 = 927) (by decide) ?_
    refine k_iadd dL_law_927 (rfl : 927 + 1 = 928) ?_
    refine k_sld (j := i + 1) dL_law_928 (rfl : 928 + 1 = 929) (nI_add i 1) (by omega) (by omega) ?_
    refine k_aload_n (i := 0) dL_law_929 (rfl : 929 + 1 = 930) rfl rfl ?_
    refine k_iload (i := 5) dL_law_930 (rfl : 930 + 2 = 932) rfl ?_
    refine k_iconst (v := 2) dL_law_932 (rfl : 932 + 1 = 933) (by decide) ?_
    refine k_iadd dL_law_933 (rfl : 933 + 1 = 934) ?_
    refine k_sld (j := i + 2) dL_law_934 (rfl : 934 + 1 = 935) (nI_add i 2) (by omega) (by omega) ?_
    refine k_aload_n (i := 3) dL_law_935 (rfl : 935 + 1 = 936) rfl rfl ?_
    refine k_callSTd4 cv_L_209 ⟨Nat.le_of_ble_eq_true rfl, Nat.le_of_ble_eq_true rfl⟩ hm dL_law_936 (rfl : 936 + 3 = 939) rfl (lc1 hc hs) rfl ?_
    refine k_istore (i := 6) dL_law_939 (rfl : 939 + 2 = 941) (Nat.le_of_ble_eq_true rfl) ?_
    refine k_ls (ls2 := [.ref 2000, .ref 0, .ref 116, .ref 128, .ref 129, .int (nI i), .int 2, .retAddr 0, .retAddr 0]) rfl ?_
    refine k_aload_n (i := 2) dL_law_941 (rfl : 941 + 1 = 942) rfl rfl ?_
    refine k_aload_n (i := 0) dL_law_942 (rfl : 942 + 1 = 943) rfl rfl ?_
    refine k_iload (i := 5) dL_law_943 (rfl : 943 + 2 = 945) rfl ?_
    refine k_iconst (v := 1) dL_law_945 (rfl : 945 + 1 = 946) (by decide) ?_
    refine k_iadd dL_law_946 (rfl : 946 + 1 = 947) ?_
    refine k_sld (j := i + 1) dL_law_947 (rfl : 947 + 1 = 948) (nI_add i 1) (by omega) (by omega) ?_
    refine k_aload_n (i := 0) dL_law_948 (rfl : 948 + 1 = 949) rfl rfl ?_
    refine k_iload (i := 5) dL_law_949 (rfl : 949 + 2 = 951) rfl ?_
    refine k_iconst (v := 2) dL_law_951 (rfl : 951 + 1 = 952) (by decide) ?_
    refine k_iadd dL_law_952 (rfl : 952 + 1 = 953) ?_
    refine k_sld (j := i + 2) dL_law_953 (rfl : 953 + 1 = 954) (nI_add i 2) (by omega) (by omega) ?_
    refine k_callVd2 cv_L_211 ⟨Nat.le_of_ble_eq_true rfl, Nat.le_of_ble_eq_true rfl⟩ (m_X12_partyIn (x := y) (a1 := (xs (i + 1))) (a2 := (xs (i + 2))) X.R.mv) dL_law_954 (rfl : 954 + 3 = 957) (Nat.le_of_ble_eq_true rfl) rfl rfl rfl (lc1 hc hs) ?_
    refine k_istore (i := 7) dL_law_957 (rfl : 957 + 2 = 959) (Nat.le_of_ble_eq_true rfl) ?_
    refine k_ls (ls2 := [.ref 2000, .ref 0, .ref 116, .ref 128, .ref 129, .int (nI i), .int 2, .int (f_X12_partyIn y (xs (i + 1)) (xs (i + 2))), .retAddr 0]) rfl ?_
    refine k_aload_n (i := 2) dL_law_959 (rfl : 959 + 1 = 960) rfl rfl ?_
    refine k_callVd0 cv_L_161 ⟨Nat.le_of_ble_eq_true rfl, Nat.le_of_ble_eq_true rfl⟩ (m_X12_thrown (x := (g_X12_partyIn y (xs (i + 1)) (xs (i + 2))))) dL_law_960 (rfl : 960 + 3 = 963) (Nat.le_of_ble_eq_true rfl) rfl rfl rfl (lc1 hc hs) ?_
    refine k_iload (i := 6) dL_law_963 (rfl : 963 + 2 = 965) rfl ?_
    refine k_icmp_eq (tgt := 970) dL_law_965 (rfl : 965 + 3 = 968) (by decide) (fun _ => ?_) (fun b => absurd e0 b)
    refine k_iload (i := 6) dL_law_970 (rfl : 970 + 2 = 972) rfl ?_
    refine k_if_ne (tgt := 987) dL_law_972 (rfl : 972 + 3 = 975) (by decide) (fun _ => ?_) (fun b => absurd b (by decide))
    refine k_goto (tgt := 2815) dL_law_987 (by decide) ?_
    exact l_go go X2 (by omega) (Nat.le_refl _) (Nat.le_refl _)
