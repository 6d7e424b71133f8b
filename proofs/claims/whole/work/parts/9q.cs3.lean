set_option maxRecDepth 100000 in
set_option maxHeartbeats 4000000 in
theorem lcs_42 {nm : String} {tb : List (Nat × Nat × Nat × Nat)} {b L i t cs ss : Nat} {xs : Nat → Int32} {x : kK} {y : kY} {f : Nat → Int64} {d : Nat → UInt64} (X : RX t x y) (ht : t + 11 < 2 ^ 20) (hi : i + 4 ≤ L) (hL : L ≤ 2048) (hc : cs + 1 ≤ 603072) (hs : ss + 6 ≤ 7182442) (go : LG nm tb b L xs i (t + 11) (cs + 1) (ss + 6)) : kEv (kLw nm tb) RW (FL b L xs) false 2220 [.ref 2000, .ref 0, .ref 116, .ref 128, .ref 129, .int (nI i), .retAddr 0, .retAddr 0, .retAddr 0] [] (h4 x y f d) 130 cs ss := by
  obtain ⟨X2, alt⟩ := q_caughtShareBits X (by omega)
  have hK := m_X11_caughtShareBits (x := x) (r := kHr y (kJ 1 f, kDb 1 d)) (sh_K X (by omega))
  rcases alt with ⟨eo, e0⟩ | ⟨eo, e0⟩
  · rw [eo] at hK
    have hm := v_L_caughtShareBits (h2 := h4 x y f d) hK rfl rfl
    rw [h4_f] at hm
    refine k_aload_n (i := 1) dL_law_2220 (rfl : 2220 + 1 = 2221) rfl rfl ?_
    refine k_aload_n (i := 3) dL_law_2221 (rfl : 2221 + 1 = 2222) rfl rfl ?_
    refine k_callSTd2 cv_L_308 ⟨Nat.le_of_ble_eq_true rfl, Nat.le_of_ble_eq_true rfl⟩ hm dL_law_2222 (rfl : 2222 + 3 = 2225) rfl (lc1 hc hs) rfl ?_
    refine k_istore (i := 6) dL_law_2225 (rfl : 2225 + 2 = 2227) (Nat.le_of_ble_eq_true rfl) ?_
    refine k_ls (ls2 := [.ref 2000, .ref 0, .ref 116, .ref 128, .ref 129, .int (nI i), .int 0, .retAddr 0, .retAddr 0]) rfl ?_
    refine k_aload_n (i := 2) dL_law_2227 (rfl : 2227 + 1 = 2228) rfl rfl ?_
    refine k_callVd0 cv_L_310 ⟨Nat.le_of_ble_eq_true rfl, Nat.le_of_ble_eq_true rfl⟩ (m_X12_caughtShareBits (x := y) (fun z => n32_sh (sh_RX X (by omega) z))) dL_law_2228 (rfl : 2228 + 3 = 2231) (Nat.le_of_ble_eq_true rfl) rfl rfl rfl (lc1 hc hs) ?_
    refine k_istore (i := 7) dL_law_2231 (rfl : 2231 + 2 = 2233) (Nat.le_of_ble_eq_true rfl) ?_
    refine k_ls (ls2 := [.ref 2000, .ref 0, .ref 116, .ref 128, .ref 129, .int (nI i), .int 0, .int (f_X12_caughtShareBits y), .retAddr 0]) rfl ?_
    refine k_aload_n (i := 2) dL_law_2233 (rfl : 2233 + 1 = 2234) rfl rfl ?_
    refine k_callVd0 cv_L_161 ⟨Nat.le_of_ble_eq_true rfl, Nat.le_of_ble_eq_true rfl⟩ (m_X12_thrown (x := (g_X12_caughtShareBits y))) dL_law_2234 (rfl : 2234 + 3 = 2237) (Nat.le_of_ble_eq_true rfl) rfl rfl rfl (lc1 hc hs) ?_
    refine k_iload (i := 6) dL_law_2237 (rfl : 2237 + 2 = 2239) rfl ?_
    refine k_icmp_eq (tgt := 2244) dL_law_2239 (rfl : 2239 + 3 = 2242) (by decide) (fun _ => ?_) (fun b => absurd e0 b)
    refine k_iload (i := 6) dL_law_2244 (rfl : 2244 + 2 = 2246) rfl ?_
    refine k_if_ne (tgt := 2261) dL_law_2246 (rfl : 2246 + 3 = 2249) (by decide) (fun b => absurd b (by decide)) (fun _ => ?_)
    refine k_aload_n (i := 3) dL_law_2249 (rfl : 2249 + 1 = 2250) rfl rfl ?_
    refine k_iconst (v := 0) dL_law_2250 (rfl : 2250 + 1 = 2251) (by decide) ?_
    refine k_lald dL_law_2251 (rfl : 2251 + 1 = 2252) (Nat.le_of_ble_eq_true rfl) rfl vp_00 ?_
    refine k_iload (i := 7) dL_law_2252 (rfl : 2252 + 2 = 2254) rfl ?_
    refine k_i2l dL_law_2254 (rfl : 2254 + 1 = 2255) ?_
    refine k_lcmp dL_law_2255 (rfl : 2255 + 1 = 2256) ?_
    refine k_if_eq (tgt := 2261) dL_law_2256 (rfl : 2256 + 3 = 2259) (by decide) (fun _ => ?_) (fun b => absurd (lg_cmp_0.2 uL0) b)
    refine k_goto (tgt := 2815) dL_law_2261 (by decide) ?_
    exact l_go go X2 (by omega) (Nat.le_refl _) (Nat.le_refl _)
  · rw [eo] at hK
    have hm := x1_L_caughtShareBits (h2 := h4 x y f d) hK rfl
    refine k_aload_n (i := 1) dL_law_2220 (rfl : 2220 + 1 = 2221) rfl rfl ?_
    refine k_aload_n (i := 3) dL_law_2221 (rfl : 2221 + 1 = 2222) rfl rfl ?_
    refine k_callSTd2 cv_L_308 ⟨Nat.le_of_ble_eq_true rfl, Nat.le_of_ble_eq_true rfl⟩ hm dL_law_2222 (rfl : 2222 + 3 = 2225) rfl (lc1 hc hs) rfl ?_
    refine k_istore (i := 6) dL_law_2225 (rfl : 2225 + 2 = 2227) (Nat.le_of_ble_eq_true rfl) ?_
    refine k_ls (ls2 := [.ref 2000, .ref 0, .ref 116, .ref 128, .ref 129, .int (nI i), .int 1, .retAddr 0, .retAddr 0]) rfl ?_
    refine k_aload_n (i := 2) dL_law_2227 (rfl : 2227 + 1 = 2228) rfl rfl ?_
    refine k_callVd0 cv_L_310 ⟨Nat.le_of_ble_eq_true rfl, Nat.le_of_ble_eq_true rfl⟩ (m_X12_caughtShareBits (x := y) (fun z => n32_sh (sh_RX X (by omega) z))) dL_law_2228 (rfl : 2228 + 3 = 2231) (Nat.le_of_ble_eq_true rfl) rfl rfl rfl (lc1 hc hs) ?_
    refine k_istore (i := 7) dL_law_2231 (rfl : 2231 + 2 = 2233) (Nat.le_of_ble_eq_true rfl) ?_
    refine k_ls (ls2 := [.ref 2000, .ref 0, .ref 116, .ref 128, .ref 129, .int (nI i), .int 1, .int (f_X12_caughtShareBits y), .retAddr 0]) rfl ?_
    refine k_aload_n (i := 2) dL_law_2233 (rfl : 2233 + 1 = 2234) rfl rfl ?_
    refine k_callVd0 cv_L_161 ⟨Nat.le_of_ble_eq_true rfl, Nat.le_of_ble_eq_true rfl⟩ (m_X12_thrown (x := (g_X12_caughtShareBits y))) dL_law_2234 (rfl : 2234 + 3 = 2237) (Nat.le_of_ble_eq_true rfl) rfl rfl rfl (lc1 hc hs) ?_
    refine k_iload (i := 6) dL_law_2237 (rfl : 2237 + 2 = 2239) rfl ?_
    refine k_icmp_eq (tgt := 2244) dL_law_2239 (rfl : 2239 + 3 = 2242) (by decide) (fun _ => ?_) (fun b => absurd e0 b)
    refine k_iload (i := 6) dL_law_2244 (rfl : 2244 + 2 = 2246) rfl ?_
    refine k_if_ne (tgt := 2261) dL_law_2246 (rfl : 2246 + 3 = 2249) (by decide) (fun _ => ?_) (fun b => absurd b (by decide))
    refine k_goto (tgt := 2815) dL_law_2261 (by decide) ?_
    exact l_go go X2 (by omega) (Nat.le_refl _) (Nat.le_refl _)
set_option maxRecDepth 100000 in
set_option maxHeartbeats 4000000 in
theorem lcs_43 {nm : String} {tb : List (Nat × Nat × Nat × Nat)} {b L i t cs ss : Nat} {xs : Nat → Int32} {x : kK} {y : kY} {f : Nat → Int64} {d : Nat → UInt64} (X : RX t x y) (ht : t + 11 < 2 ^ 20) (hi : i + 4 ≤ L) (hL : L ≤ 2048) (hc : cs + 1 ≤ 603072) (hs : ss + 6 ≤ 7182442) (go : LG nm tb b L xs i (t + 11) (cs + 1) (ss + 6)) : kEv (kLw nm tb) RW (FL b L xs) false 2264 [.ref 2000, .ref 0, .ref 116, .ref 128, .ref 129, .int (nI i), .retAddr 0, .retAddr 0, .retAddr 0] [] (h4 x y f d) 130 cs ss := by
  obtain ⟨X2, alt⟩ := q_meanSteps X
  have hK := m_X11_meanSteps (x := x) (r := kHr y (kJ 1 f, kDb 1 d)) (mean_K X (by omega))
  rcases alt with ⟨nz, eo, e0⟩ | ⟨eo, e0⟩
  · rw [eo] at hK
    have hne : vf_n64 (f_X12_meanSteps y) := by
      have z := mean_RX X (by omega) nz
      unfold f_X12_meanSteps; rw [if_neg nz]; exact z
    have hm := v_L_meanSteps (h2 := h4 x y f d) hK rfl rfl
    rw [h4_d] at hm
    refine k_aload_n (i := 1) dL_law_2264 (rfl : 2264 + 1 = 2265) rfl rfl ?_
    refine k_aload (i := 4) dL_law_2265 (rfl : 2265 + 2 = 2267) rfl ?_
    refine k_callSTd2 cv_L_311 ⟨Nat.le_of_ble_eq_true rfl, Nat.le_of_ble_eq_true rfl⟩ hm dL_law_2267 (rfl : 2267 + 3 = 2270) rfl (lc1 hc hs) rfl ?_
    refine k_istore (i := 6) dL_law_2270 (rfl : 2270 + 2 = 2272) (Nat.le_of_ble_eq_true rfl) ?_
    refine k_ls (ls2 := [.ref 2000, .ref 0, .ref 116, .ref 128, .ref 129, .int (nI i), .int 0, .retAddr 0, .retAddr 0]) rfl ?_
    refine k_aload_n (i := 2) dL_law_2272 (rfl : 2272 + 1 = 2273) rfl rfl ?_
    refine k_callVd0 cv_L_313 ⟨Nat.le_of_ble_eq_true rfl, Nat.le_of_ble_eq_true rfl⟩ (m_X12_meanSteps (x := y) (mean_RX X (by omega))) dL_law_2273 (rfl : 2273 + 3 = 2276) (Nat.le_of_ble_eq_true rfl) rfl rfl rfl (lc1 hc hs) ?_
    refine k_dstore (i := 7) dL_law_2276 (rfl : 2276 + 2 = 2278) (Nat.le_of_ble_eq_true rfl) ?_
    refine k_ls (ls2 := [.ref 2000, .ref 0, .ref 116, .ref 128, .ref 129, .int (nI i), .int 0, .double (f_X12_meanSteps y), .retAddr 0]) rfl ?_
    refine k_aload_n (i := 2) dL_law_2278 (rfl : 2278 + 1 = 2279) rfl rfl ?_
    refine k_callVd0 cv_L_161 ⟨Nat.le_of_ble_eq_true rfl, Nat.le_of_ble_eq_true rfl⟩ (m_X12_thrown (x := (g_X12_meanSteps y))) dL_law_2279 (rfl : 2279 + 3 = 2282) (Nat.le_of_ble_eq_true rfl) rfl rfl rfl (lc1 hc hs) ?_
    refine k_iload (i := 6) dL_law_2282 (rfl : 2282 + 2 = 2284) rfl ?_
    refine k_icmp_eq (tgt := 2289) dL_law_2284 (rfl : 2284 + 3 = 2287) (by decide) (fun _ => ?_) (fun b => absurd e0 b)
    refine k_iload (i := 6) dL_law_2289 (rfl : 2289 + 2 = 2291) rfl ?_
    refine k_if_ne (tgt := 2326) dL_law_2291 (rfl : 2291 + 3 = 2294) (by decide) (fun b => absurd b (by decide)) (fun _ => ?_)
    refine k_aload (i := 4) dL_law_2294 (rfl : 2294 + 2 = 2296) rfl ?_
    refine k_iconst (v := 0) dL_law_2296 (rfl : 2296 + 1 = 2297) (by decide) ?_
    refine k_dald dL_law_2297 (rfl : 2297 + 1 = 2298) (Nat.le_of_ble_eq_true rfl) rfl vp_00 ?_
    refine k_dload (i := 7) dL_law_2298 (rfl : 2298 + 2 = 2300) rfl ?_
    refine k_dcmp dL_law_2300 (rfl : 2300 + 1 = 2301) ?_
    refine k_if_eq (tgt := 2326) dL_law_2301 (rfl : 2301 + 3 = 2304) (by decide) (fun _ => ?_) (fun b => absurd (by rw [uD0, dcmp_self hne]; rfl) b)
    refine k_goto (tgt := 2815) dL_law_2326 (by decide) ?_
    exact l_go go X2 (by omega) (Nat.le_refl _) (Nat.le_refl _)
  · rw [eo] at hK
    have hm := x1_L_meanSteps (h2 := h4 x y f d) hK rfl
    refine k_aload_n (i := 1) dL_law_2264 (rfl : 2264 + 1 = 2265) rfl rfl ?_
    refine k_aload (i := 4) dL_law_2265 (rfl : 2265 + 2 = 2267) rfl ?_
    refine k_callSTd2 cv_L_311 ⟨Nat.le_of_ble_eq_true rfl, Nat.le_of_ble_eq_true rfl⟩ hm dL_law_2267 (rfl : 2267 + 3 = 2270) rfl (lc1 hc hs) rfl ?_
    refine k_istore (i := 6) dL_law_2270 (rfl : 2270 + 2 = 2272) (Nat.le_of_ble_eq_true rfl) ?_
    refine k_ls (ls2 := [.ref 2000, .ref 0, .ref 116, .ref 128, .ref 129, .int (nI i), .int 1, .retAddr 0, .retAddr 0]) rfl ?_
    refine k_aload_n (i := 2) dL_law_2272 (rfl : 2272 + 1 = 2273) rfl rfl ?_
    refine k_callVd0 cv_L_313 ⟨Nat.le_of_ble_eq_true rfl, Nat.le_of_ble_eq_true rfl⟩ (m_X12_meanSteps (x := y) (mean_RX X (by omega))) dL_law_2273 (rfl : 2273 + 3 = 2276) (Nat.le_of_ble_eq_true rfl) rfl rfl rfl (lc1 hc hs) ?_
    refine k_dstore (i := 7) dL_law_2276 (rfl : 2276 + 2 = 2278) (Nat.le_of_ble_eq_true rfl) ?_
    refine k_ls (ls2 := [.ref 2000, .ref 0, .ref 116, .ref 128, .ref 129, .int (nI i), .int 1, .double (f_X12_meanSteps y), .retAddr 0]) rfl ?_
    refine k_aload_n (i := 2) dL_law_2278 (rfl : 2278 + 1 = 2279) rfl rfl ?_
    refine k_callVd0 cv_L_161 ⟨Nat.le_of_ble_eq_true rfl, Nat.le_of_ble_eq_true rfl⟩ (m_X12_thrown (x := (g_X12_meanSteps y))) dL_law_2279 (rfl : 2279 + 3 = 2282) (Nat.le_of_ble_eq_true rfl) rfl rfl rfl (lc1 hc hs) ?_
    refine k_iload (i := 6) dL_law_2282 (rfl : 2282 + 2 = 2284) rfl ?_
    refine k_icmp_eq (tgt := 2289) dL_law_2284 (rfl : 2284 + 3 = 2287) (by decide) (fun _ => ?_) (fun b => absurd e0 b)
    refine k_iload (i := 6) dL_law_2289 (rfl : 2289 + 2 = 2291) rfl ?_
    refine k_if_ne (tgt := 2326) dL_law_2291 (rfl : 2291 + 3 = 2294) (by decide) (fun _ => ?_) (fun b => absurd b (by decide))
    refine k_goto (tgt := 2815) dL_law_2326 (by decide) ?_
    exact l_go go X2 (by omega) (Nat.le_refl _) (Nat.le_refl _)
set_option maxRecDepth 100000 in
set_option maxHeartbeats 4000000 in
theorem lcs_44 {nm : String} {tb : List (Nat × Nat × Nat × Nat)} {b L i t cs ss : Nat} {xs : Nat → Int32} {x : kK} {y : kY} {f : Nat → Int64} {d : Nat → UInt64} (X : RX t x y) (ht : t + 11 < 2 ^ 20) (hi : i + 4 ≤ L) (hL : L ≤ 2048) (hc : cs + 1 ≤ 603072) (hs : ss + 6 ≤ 7182442) (go : LG nm tb b L xs i (t + 11) (cs + 1) (ss + 6)) : kEv (kLw nm tb) RW (FL b L xs) false 2329 [.ref 2000, .ref 0, .ref 116, .ref 128, .ref 129, .int (nI i), .retAddr 0, .retAddr 0, .retAddr 0] [] (h4 x y f d) 130 cs ss := by
  have qe := q_signature X
  have X2 : RX t x (g_X12_signature y) := RX_s X 0
  refine k_aload_n (i := 1) dL_law_2329 (rfl : 2329 + 1 = 2330) rfl rfl ?_
  refine k_callVd0 cv_L_314 ⟨Nat.le_of_ble_eq_true rfl, Nat.le_of_ble_eq_true rfl⟩ (m_X11_signature (x := x) X.R.iv) dL_law_2330 (rfl : 2330 + 3 = 2333) (Nat.le_of_ble_eq_true rfl) rfl rfl rfl (lc0 hc hs) ?_
  refine k_aload_n (i := 2) dL_law_2333 (rfl : 2333 + 1 = 2334) rfl rfl ?_
  refine k_callVd0 cv_L_317 ⟨Nat.le_of_ble_eq_true rfl, Nat.le_of_ble_eq_true rfl⟩ (m_X12_signature (x := y) X.R.mv) dL_law_2334 (rfl : 2334 + 3 = 2337) (Nat.le_of_ble_eq_true rfl) rfl rfl rfl (lc0 hc hs) ?_
  refine k_lcmp dL_law_2337 (rfl : 2337 + 1 = 2338) ?_
  refine k_if_eq (tgt := 2815) dL_law_2338 (rfl : 2338 + 3 = 2341) (by decide) (fun _ => ?_) (fun b => absurd (lg_cmp_0.2 qe) b)
  exact l_go go X2 (by omega) (show cs ≤ cs + 1 by omega) (show ss ≤ ss + 6 by omega)
set_option maxRecDepth 100000 in
set_option maxHeartbeats 4000000 in
theorem lcs_45 {nm : String} {tb : List (Nat × Nat × Nat × Nat)} {b L i t cs ss : Nat} {xs : Nat → Int32} {x : kK} {y : kY} {f : Nat → Int64} {d : Nat → UInt64} (X : RX t x y) (ht : t + 11 < 2 ^ 20) (hi : i + 4 ≤ L) (hL : L ≤ 2048) (hc : cs + 1 ≤ 603072) (hs : ss + 6 ≤ 7182442) (go : LG nm tb b L xs i (t + 11) (cs + 1) (ss + 6)) : kEv (kLw nm tb) RW (FL b L xs) false 2343 [.ref 2000, .ref 0, .ref 116, .ref 128, .ref 129, .int (nI i), .retAddr 0, .retAddr 0, .retAddr 0] [] (h4 x y f d) 130 cs ss := by
  obtain ⟨X2, alt⟩ := q_append X (a := ((xs (i + 1)).toUInt32 % 65536).toInt32)
  have hK := m_X11_append (x := x) (r := kHr y (kJ 1 f, kDb 1 d)) (a1 := ((xs (i + 1)).toUInt32 % 65536).toInt32) (pr_tl X)
  rcases alt with ⟨eo, e0⟩ | ⟨eo, e0⟩ | ⟨eo, e0⟩
  · rw [eo] at hK
    have hm := v_L_append (h2 := h4 (g_X11_append x ((xs (i + 1)).toUInt32 % 65536).toInt32) y f d) hK rfl rfl
    rw [h4_f] at hm
    refine k_aload_n (i := 1) dL_law_2343 (rfl : 2343 + 1 = 2344) rfl rfl ?_
    refine k_aload_n (i := 0) dL_law_2344 (rfl : 2344 + 1 = 2345) rfl rfl ?_
    refine k_iload (i := 5) dL_law_2345 (rfl : 2345 + 2 = 2347) rfl ?_
    refine k_iconst (v := 1) dL_law_2347 (rfl : 2347 + 1 = 2348) (by decide) ?_
    refine k_iadd dL_law_2348 (rfl : 2348 + 1 = 2349) ?_
    refine k_sld (j := i + 1) dL_law_2349 (rfl : 2349 + 1 = 2350) (nI_add i 1) (by omega) (by omega) ?_
    refine k_i2c dL_law_2350 (rfl : 2350 + 1 = 2351) ?_
    refine k_aload_n (i := 3) dL_law_2351 (rfl : 2351 + 1 = 2352) rfl rfl ?_
    refine k_callSTd3 cv_L_318 ⟨Nat.le_of_ble_eq_true rfl, Nat.le_of_ble_eq_true rfl⟩ hm dL_law_2352 (rfl : 2352 + 3 = 2355) rfl (lc1 hc hs) rfl ?_
    refine k_istore (i := 6) dL_law_2355 (rfl : 2355 + 2 = 2357) (Nat.le_of_ble_eq_true rfl) ?_
    refine k_ls (ls2 := [.ref 2000, .ref 0, .ref 116, .ref 128, .ref 129, .int (nI i), .int 0, .retAddr 0, .retAddr 0]) rfl ?_
    refine k_aload_n (i := 2) dL_law_2357 (rfl : 2357 + 1 = 2358) rfl rfl ?_
    refine k_aload_n (i := 0) dL_law_2358 (rfl : 2358 + 1 = 2359) rfl rfl ?_
    refine k_iload (i := 5) dL_law_2359 (rfl : 2359 + 2 = 2361) rfl ?_
    refine k_iconst (v := 1) dL_law_2361 (rfl : 2361 + 1 = 2362) (by decide) ?_
    refine k_iadd dL_law_2362 (rfl : 2362 + 1 = 2363) ?_
    refine k_sld (j := i + 1) dL_law_2363 (rfl : 2363 + 1 = 2364) (nI_add i 1) (by omega) (by omega) ?_
    refine k_i2c dL_law_2364 (rfl : 2364 + 1 = 2365) ?_
    refine k_callVd1 cv_L_321 ⟨Nat.le_of_ble_eq_true rfl, Nat.le_of_ble_eq_true rfl⟩ (m_X12_append (x := y) (a1 := ((xs (i + 1)).toUInt32 % 65536).toInt32) (pr_t9 X)) dL_law_2365 (rfl : 2365 + 3 = 2368) (Nat.le_of_ble_eq_true rfl) rfl rfl rfl (lc1 hc hs) ?_
    refine k_istore (i := 7) dL_law_2368 (rfl : 2368 + 2 = 2370) (Nat.le_of_ble_eq_true rfl) ?_
    refine k_ls (ls2 := [.ref 2000, .ref 0, .ref 116, .ref 128, .ref 129, .int (nI i), .int 0, .int (f_X12_append y ((xs (i + 1)).toUInt32 % 65536).toInt32), .retAddr 0]) rfl ?_
    refine k_aload_n (i := 2) dL_law_2370 (rfl : 2370 + 1 = 2371) rfl rfl ?_
    refine k_callVd0 cv_L_161 ⟨Nat.le_of_ble_eq_true rfl, Nat.le_of_ble_eq_true rfl⟩ (m_X12_thrown (x := (g_X12_append y ((xs (i + 1)).toUInt32 % 65536).toInt32))) dL_law_2371 (rfl : 2371 + 3 = 2374) (Nat.le_of_ble_eq_true rfl) rfl rfl rfl (lc1 hc hs) ?_
    refine k_iload (i := 6) dL_law_2374 (rfl : 2374 + 2 = 2376) rfl ?_
    refine k_icmp_eq (tgt := 2381) dL_law_2376 (rfl : 2376 + 3 = 2379) (by decide) (fun _ => ?_) (fun b => absurd e0 b)
    refine k_iload (i := 6) dL_law_2381 (rfl : 2381 + 2 = 2383) rfl ?_
    refine k_if_ne (tgt := 2398) dL_law_2383 (rfl : 2383 + 3 = 2386) (by decide) (fun b => absurd b (by decide)) (fun _ => ?_)
    refine k_aload_n (i := 3) dL_law_2386 (rfl : 2386 + 1 = 2387) rfl rfl ?_
    refine k_iconst (v := 0) dL_law_2387 (rfl : 2387 + 1 = 2388) (by decide) ?_
    refine k_lald dL_law_2388 (rfl : 2388 + 1 = 2389) (Nat.le_of_ble_eq_true rfl) rfl vp_00 ?_
    refine k_iload (i := 7) dL_law_2389 (rfl : 2389 + 2 = 2391) rfl ?_
    refine k_i2l dL_law_2391 (rfl : 2391 + 1 = 2392) ?_
    refine k_lcmp dL_law_2392 (rfl : 2392 + 1 = 2393) ?_
    refine k_if_eq (tgt := 2398) dL_law_2393 (rfl : 2393 + 3 = 2396) (by decide) (fun _ => ?_) (fun b => absurd (lg_cmp_0.2 uL0) b)
    refine k_goto (tgt := 2815) dL_law_2398 (by decide) ?_
    exact l_go go X2 (by omega) (Nat.le_refl _) (Nat.le_refl _)
  · rw [eo] at hK
    have hm := x1_L_append (h2 := h4 (g_X11_append x ((xs (i + 1)).toUInt32 % 65536).toInt32) y f d) hK rfl
    refine k_aload_n (i := 1) dL_law_2343 (rfl : 2343 + 1 = 2344) rfl rfl ?_
    refine k_aload_n (i := 0) dL_law_2344 (rfl : 2344 + 1 = 2345) rfl rfl ?_
    refine k_iload (i := 5) dL_law_2345 (rfl : 2345 + 2 = 2347) rfl ?_
    refine k_iconst (v := 1) dL_law_2347 (rfl : 2347 + 1 = 2348) (by decide) ?_
    refine k_iadd dL_law_2348 (rfl : 2348 + 1 = 2349) ?_
    refine k_sld (j := i + 1) dL_law_2349 (rfl : 2349 + 1 = 2350) (nI_add i 1) (by omega) (by omega) ?_
    refine k_i2c dL_law_2350 (rfl : 2350 + 1 = 2351) ?_
    refine k_aload_n (i := 3) dL_law_2351 (rfl : 2351 + 1 = 2352) rfl rfl ?_
    refine k_callSTd3 cv_L_318 ⟨Nat.le_of_ble_eq_true rfl, Nat.le_of_ble_eq_true rfl⟩ hm dL_law_2352 (rfl : 2352 + 3 = 2355) rfl (lc1 hc hs) rfl ?_
    refine k_istore (i := 6) dL_law_2355 (rfl : 2355 + 2 = 2357) (Nat.le_of_ble_eq_true rfl) ?_
    refine k_ls (ls2 := [.ref 2000, .ref 0, .ref 116, .ref 128, .ref 129, .int (nI i), .int 1, .retAddr 0, .retAddr 0]) rfl ?_
    refine k_aload_n (i := 2) dL_law_2357 (rfl : 2357 + 1 = 2358) rfl rfl ?_
    refine k_aload_n (i := 0) dL_law_2358 (rfl : 2358 + 1 = 2359) rfl rfl ?_
    refine k_iload (i := 5) dL_law_2359 (rfl : 2359 + 2 = 2361) rfl ?_
    refine k_iconst (v := 1) dL_law_2361 (rfl : 2361 + 1 = 2362) (by decide) ?_
    refine k_iadd dL_law_2362 (rfl : 2362 + 1 = 2363) ?_
    refine k_sld (j := i + 1) dL_law_2363 (rfl : 2363 + 1 = 2364) (nI_add i 1) (by omega) (by omega) ?_
    refine k_i2c dL_law_2364 (rfl : 2364 + 1 = 2365) ?_
    refine k_callVd1 cv_L_321 ⟨Nat.le_of_ble_eq_true rfl, Nat.le_of_ble_eq_true rfl⟩ (m_X12_append (x := y) (a1 := ((xs (i + 1)).toUInt32 % 65536).toInt32) (pr_t9 X)) dL_law_2365 (rfl : 2365 + 3 = 2368) (Nat.le_of_ble_eq_true rfl) rfl rfl rfl (lc1 hc hs) ?_
    refine k_istore (i := 7) dL_law_2368 (rfl : 2368 + 2 = 2370) (Nat.le_of_ble_eq_true rfl) ?_
    refine k_ls (ls2 := [.ref 2000, .ref 0, .ref 116, .ref 128, .ref 129, .int (nI i), .int 1, .int (f_X12_append y ((xs (i + 1)).toUInt32 % 65536).toInt32), .retAddr 0]) rfl ?_
    refine k_aload_n (i := 2) dL_law_2370 (rfl : 2370 + 1 = 2371) rfl rfl ?_
    refine k_callVd0 cv_L_161 ⟨Nat.le_of_ble_eq_true rfl, Nat.le_of_ble_eq_true rfl⟩ (m_X12_thrown (x := (g_X12_append y ((xs (i + 1)).toUInt32 % 65536).toInt32))) dL_law_2371 (rfl : 2371 + 3 = 2374) (Nat.le_of_ble_eq_true rfl) rfl rfl rfl (lc1 hc hs) ?_
    refine k_iload (i := 6) dL_law_2374 (rfl : 2374 + 2 = 2376) rfl ?_
    refine k_icmp_eq (tgt := 2381) dL_law_2376 (rfl : 2376 + 3 = 2379) (by decide) (fun _ => ?_) (fun b => absurd e0 b)
    refine k_iload (i := 6) dL_law_2381 (rfl : 2381 + 2 = 2383) rfl ?_
    refine k_if_ne (tgt := 2398) dL_law_2383 (rfl : 2383 + 3 = 2386) (by decide) (fun _ => ?_) (fun b => absurd b (by decide))
    refine k_goto (tgt := 2815) dL_law_2398 (by decide) ?_
    exact l_go go X2 (by omega) (Nat.le_refl _) (Nat.le_refl _)
  · rw [eo] at hK
    have hm := x2_L_append (h2 := h4 (g_X11_append x ((xs (i + 1)).toUInt32 % 65536).toInt32) y f d) hK rfl
    refine k_aload_n (i := 1) dL_law_2343 (rfl : 2343 + 1 = 2344) rfl rfl ?_
    refine k_aload_n (i := 0) dL_law_2344 (rfl : 2344 + 1 = 2345) rfl rfl ?_
    refine k_iload (i := 5) dL_law_2345 (rfl : 2345 + 2 = 2347) rfl ?_
    refine k_iconst (v := 1) dL_law_2347 (rfl : 2347 + 1 = 2348) (by decide) ?_
    refine k_iadd dL_law_2348 (rfl : 2348 + 1 = 2349) ?_
    refine k_sld (j := i + 1) dL_law_2349 (rfl : 2349 + 1 = 2350) (nI_add i 1) (by omega) (by omega) ?_
    refine k_i2c dL_law_2350 (rfl : 2350 + 1 = 2351) ?_
    refine k_aload_n (i := 3) dL_law_2351 (rfl : 2351 + 1 = 2352) rfl rfl ?_
    refine k_callSTd3 cv_L_318 ⟨Nat.le_of_ble_eq_true rfl, Nat.le_of_ble_eq_true rfl⟩ hm dL_law_2352 (rfl : 2352 + 3 = 2355) rfl (lc1 hc hs) rfl ?_
    refine k_istore (i := 6) dL_law_2355 (rfl : 2355 + 2 = 2357) (Nat.le_of_ble_eq_true rfl) ?_
    refine k_ls (ls2 := [.ref 2000, .ref 0, .ref 116, .ref 128, .ref 129, .int (nI i), .int 2, .retAddr 0, .retAddr 0]) rfl ?_
    refine k_aload_n (i := 2) dL_law_2357 (rfl : 2357 + 1 = 2358) rfl rfl ?_
    refine k_aload_n (i := 0) dL_law_2358 (rfl : 2358 + 1 = 2359) rfl rfl ?_
    refine k_iload (i := 5) dL_law_2359 (rfl : 2359 + 2 = 2361) rfl ?_
    refine k_iconst (v := 1) dL_law_2361 (rfl : 2361 + 1 = 2362) (by decide) ?_
    refine k_iadd dL_law_2362 (rfl : 2362 + 1 = 2363) ?_
    refine k_sld (j := i + 1) dL_law_2363 (rfl : 2363 + 1 = 2364) (nI_add i 1) (by omega) (by omega) ?_
    refine k_i2c dL_law_2364 (rfl : 2364 + 1 = 2365) ?_
    refine k_callVd1 cv_L_321 ⟨Nat.le_of_ble_eq_true rfl, Nat.le_of_ble_eq_true rfl⟩ (m_X12_append (x := y) (a1 := ((xs (i + 1)).toUInt32 % 65536).toInt32) (pr_t9 X)) dL_law_2365 (rfl : 2365 + 3 = 2368) (Nat.le_of_ble_eq_true rfl) rfl rfl rfl (lc1 hc hs) ?_
    refine k_istore (i := 7) dL_law_2368 (rfl : 2368 + 2 = 2370) (Nat.le_of_ble_eq_true rfl) ?_
    refine k_ls (ls2 := [.ref 2000, .ref 0, .ref 116, .ref 128, .ref 129, .int (nI i), .int 2, .int (f_X12_append y ((xs (i + 1)).toUInt32 % 65536).toInt32), .retAddr 0]) rfl ?_
    refine k_aload_n (i := 2) dL_law_2370 (rfl : 2370 + 1 = 2371) rfl rfl ?_
    refine k_callVd0 cv_L_161 ⟨Nat.le_of_ble_eq_true rfl, Nat.le_of_ble_eq_true rfl⟩ (m_X12_thrown (x := (g_X12_append y ((xs (i + 1)).toUInt32 % 65536).toInt32))) dL_law_2371 (rfl : 2371 + 3 = 2374) (Nat.le_of_ble_eq_true rfl) rfl rfl rfl (lc1 hc hs) ?_
    refine k_iload (i := 6) dL_law_2374 (rfl : 2374 + 2 = 2376) rfl ?_
    refine k_icmp_eq (tgt := 2381) dL_law_2376 (rfl : 2376 + 3 = 2379) (by decide) (fun _ => ?_) (fun b => absurd e0 b)
    refine k_iload (i := 6) dL_law_2381 (rfl : 2381 + 2 = 2383) rfl ?_
    refine k_if_ne (tgt := 2398) dL_law_2383 (rfl : 2383 + 3 = 2386) (by decide) (fun _ => ?_) (fun b => absurd b (by decide))
    refine k_goto (tgt := 2815) dL_law_2398 (by decide) ?_
    exact l_go go X2 (by omega) (Nat.le_refl _) (Nat.le_refl _)
set_option maxRecDepth 100000 in
set_option maxHeartbeats 4000000 in
theorem lcs_46 {nm : String} {tb : List (Nat × Nat × Nat × Nat)} {b L i t cs ss : Nat} {xs : Nat → Int32} {x : kK} {y : kY} {f : Nat → Int64} {d : Nat → UInt64} (X : RX t x y) (ht : t + 11 < 2 ^ 20) (hi : i + 4 ≤ L) (hL : L ≤ 2048) (hc : cs + 1 ≤ 603072) (hs : ss + 6 ≤ 7182442) (go : LG nm tb b L xs i (t + 11) (cs + 1) (ss + 6)) : kEv (kLw nm tb) RW (FL b L xs) false 2401 [.ref 2000, .ref 0, .ref 116, .ref 128, .ref 129, .int (nI i), .retAddr 0, .retAddr 0, .retAddr 0] [] (h4 x y f d) 130 cs ss := by
  obtain ⟨X2, alt, r1, r2, r3, r4, r5⟩ := q_run X ht
  unfold run1 at r1 r2 r3 r4 r5
  have hY := fun (a9 : kH) (z9 : kE × kE) => m_X12_run (x := y) (a9 := a9) (z9 := z9) r1 r2 r3 r4 r5
  have hK := m_X11_run (x := x) (r := kHr y (kJ 1 f, kDb 1 d)) (pr_tl X) X.R.iv X.hi
  rcases alt with ⟨eo, e0⟩ | ⟨eo, e0⟩ | ⟨eo, e0⟩
  · rw [eo] at hK
    have hm := v_L_run (h2 := h4 (g_X11_run x) y f d) hK rfl rfl
    rw [h4_f] at hm
    refine k_aload_n (i := 1) dL_law_2401 (rfl : 2401 + 1 = 2402) rfl rfl ?_
    refine k_aload_n (i := 3) dL_law_2402 (rfl : 2402 + 1 = 2403) rfl rfl ?_
    refine k_callSTd2 cv_L_322 ⟨Nat.le_of_ble_eq_true rfl, Nat.le_of_ble_eq_true rfl⟩ hm dL_law_2403 (rfl : 2403 + 3 = 2406) rfl (lc1 hc hs) rfl ?_
    refine k_istore (i := 6) dL_law_2406 (rfl : 2406 + 2 = 2408) (Nat.le_of_ble_eq_true rfl) ?_
    refine k_ls (ls2 := [.ref 2000, .ref 0, .ref 116, .ref 128, .ref 129, .int (nI i), .int 0, .retAddr 0, .retAddr 0]) rfl ?_
    refine k_aload_n (i := 2) dL_law_2408 (rfl : 2408 + 1 = 2409) rfl rfl ?_
    refine k_callVd0 cv_L_324 ⟨Nat.le_of_ble_eq_true rfl, Nat.le_of_ble_eq_true rfl⟩ (hY _ _) dL_law_2409 (rfl : 2409 + 3 = 2412) (Nat.le_of_ble_eq_true rfl) rfl rfl rfl (lc1 hc hs) ?_
    refine k_istore (i := 7) dL_law_2412 (rfl : 2412 + 2 = 2414) (Nat.le_of_ble_eq_true rfl) ?_
    refine k_ls (ls2 := [.ref 2000, .ref 0, .ref 116, .ref 128, .ref 129, .int (nI i), .int 0, .int (f_X12_run y), .retAddr 0]) rfl ?_
    refine k_aload_n (i := 2) dL_law_2414 (rfl : 2414 + 1 = 2415) rfl rfl ?_
    refine k_callVd0 cv_L_161 ⟨Nat.le_of_ble_eq_true rfl, Nat.le_of_ble_eq_true rfl⟩ (m_X12_thrown (x := (g_X12_run y))) dL_law_2415 (rfl : 2415 + 3 = 2418) (Nat.le_of_ble_eq_true rfl) rfl rfl rfl (lc1 hc hs) ?_
    refine k_iload (i := 6) dL_law_2418 (rfl : 2418 + 2 = 2420) rfl ?_
    refine k_icmp_eq (tgt := 2425) dL_law_2420 (rfl : 2420 + 3 = 2423) (by decide) (fun _ => ?_) (fun b => absurd e0 b)
    refine k_iload (i := 6) dL_law_2425 (rfl : 2425 + 2 = 2427) rfl ?_
    refine k_if_ne (tgt := 2442) dL_law_2427 (rfl : 2427 + 3 = 2430) (by decide) (fun b => absurd b (by decide)) (fun _ => ?_)
    refine k_aload_n (i := 3) dL_law_2430 (rfl : 2430 + 1 = 2431) rfl rfl ?_
    refine k_iconst (v := 0) dL_law_2431 (rfl : 2431 + 1 = 2432) (by decide) ?_
    refine k_lald dL_law_2432 (rfl : 2432 + 1 = 2433) (Nat.le_of_ble_eq_true rfl) rfl vp_00 ?_
    refine k_iload (i := 7) dL_law_2433 (rfl : 2433 + 2 = 2435) rfl ?_
    refine k_i2l dL_law_2435 (rfl : 2435 + 1 = 2436) ?_
    refine k_lcmp dL_law_2436 (rfl : 2436 + 1 = 2437) ?_
    refine k_if_eq (tgt := 2442) dL_law_2437 (rfl : 2437 + 3 = 2440) (by decide) (fun _ => ?_) (fun b => absurd (lg_cmp_0.2 uL0) b)
    refine k_goto (tgt := 2815) dL_law_2442 (by decide) ?_
    exact l_go go X2 (by omega) (Nat.le_refl _) (Nat.le_refl _)
  · rw [eo] at hK
    have hm := x1_L_run (h2 := h4 (g_X11_run x) y f d) hK rfl
    refine k_aload_n (i := 1) dL_law_2401 (rfl : 2401 + 1 = 2402) rfl rfl ?_
    refine k_aload_n (i := 3) dL_law_2402 (rfl : 2402 + 1 = 2403) rfl rfl ?_
    refine k_callSTd2 cv_L_322 ⟨Nat.le_of_ble_eq_true rfl, Nat.le_of_ble_eq_true rfl⟩ hm dL_law_2403 (rfl : 2403 + 3 = 2406) rfl (lc1 hc hs) rfl ?_
    refine k_istore (i := 6) dL_law_2406 (rfl : 2406 + 2 = 2408) (Nat.le_of_ble_eq_true rfl) ?_
    refine k_ls (ls2 := [.ref 2000, .ref 0, .ref 116, .ref 128, .ref 129, .int (nI i), .int 1, .retAddr 0, .retAddr 0]) rfl ?_
    refine k_aload_n (i := 2) dL_law_2408 (rfl : 2408 + 1 = 2409) rfl rfl ?_
    refine k_callVd0 cv_L_324 ⟨Nat.le_of_ble_eq_true rfl, Nat.le_of_ble_eq_true rfl⟩ (hY _ _) dL_law_2409 (rfl : 2409 + 3 = 2412) (Nat.le_of_ble_eq_true rfl) rfl rfl rfl (lc1 hc hs) ?_
    refine k_istore (i := 7) dL_law_2412 (rfl : 2412 + 2 = 2414) (Nat.le_of_ble_eq_true rfl) ?_
    refine k_ls (ls2 := [.ref 2000, .ref 0, .ref 116, .ref 128, .ref 129, .int (nI i), .int 1, .int (f_X12_run y), .retAddr 0]) rfl ?_
    refine k_aload_n (i := 2) dL_law_2414 (rfl : 2414 + 1 = 2415) rfl rfl ?_
    refine k_callVd0 cv_L_161 ⟨Nat.le_of_ble_eq_true rfl, Nat.le_of_ble_eq_true rfl⟩ (m_X12_thrown (x := (g_X12_run y))) dL_law_2415 (rfl : 2415 + 3 = 2418) (Nat.le_of_ble_eq_true rfl) rfl rfl rfl (lc1 hc hs) ?_
    refine k_iload (i := 6) dL_law_2418 (rfl : 2418 + 2 = 2420) rfl ?_
    refine k_icmp_eq (tgt := 2425) dL_law_2420 (rfl : 2420 + 3 = 2423) (by decide) (fun _ => ?_) (fun b => absurd e0 b)
    refine k_iload (i := 6) dL_law_2425 (rfl : 2425 + 2 = 2427) rfl ?_
    refine k_if_ne (tgt := 2442) dL_law_2427 (rfl : 2427 + 3 = 2430) (by decide) (fun _ => ?_) (fun b => absurd b (by decide))
    refine k_goto (tgt := 2815) dL_law_2442 (by decide) ?_
    exact l_go go X2 (by omega) (Nat.le_refl _) (Nat.le_refl _)
  · rw [eo] at hK
    have hm := x2_L_run (h2 := h4 (g_X11_run x) y f d) hK rfl
    refine k_aload_n (i := 1) dL_law_2401 (rfl : 2401 + 1 = 2402) rfl rfl ?_
    refine k_aload_n (i := 3) dL_law_2402 (rfl : 2402 + 1 = 2403) rfl rfl ?_
    refine k_callSTd2 cv_L_322 ⟨Nat.le_of_ble_eq_true rfl, Nat.le_of_ble_eq_true rfl⟩ hm dL_law_2403 (rfl : 2403 + 3 = 2406) rfl (lc1 hc hs) rfl ?_
    refine k_istore (i := 6) dL_law_2406 (rfl : 2406 + 2 = 2408) (Nat.le_of_ble_eq_true rfl) ?_
    refine k_ls (ls2 := [.ref 2000, .ref 0, .ref 116, .ref 128, .ref 129, .int (nI i), .int 2, .retAddr 0, .retAddr 0]) rfl ?_
    refine k_aload_n (i := 2) dL_law_2408 (rfl : 2408 + 1 = 2409) rfl rfl ?_
    refine k_callVd0 cv_L_324 ⟨Nat.le_of_ble_eq_true rfl, Nat.le_of_ble_eq_true rfl⟩ (hY _ _) dL_law_2409 (rfl : 2409 + 3 = 2412) (Nat.le_of_ble_eq_true rfl) rfl rfl rfl (lc1 hc hs) ?_
    refine k_istore (i := 7) dL_law_2412 (rfl : 2412 + 2 = 2414) (Nat.le_of_ble_eq_true rfl) ?_
    refine k_ls (ls2 := [.ref 2000, .ref 0, .ref 116, .ref 128, .ref 129, .int (nI i), .int 2, .int (f_X12_run y), .retAddr 0]) rfl ?_
    refine k_aload_n (i := 2) dL_law_2414 (rfl : 2414 + 1 = 2415) rfl rfl ?_
    refine k_callVd0 cv_L_161 ⟨Nat.le_of_ble_eq_true rfl, Nat.le_of_ble_eq_true rfl⟩ (m_X12_thrown (x := (g_X12_run y))) dL_law_2415 (rfl : 2415 + 3 = 2418) (Nat.le_of_ble_eq_true rfl) rfl rfl rfl (lc1 hc hs) ?_
    refine k_iload (i := 6) dL_law_2418 (rfl : 2418 + 2 = 2420) rfl ?_
    refine k_icmp_eq (tgt := 2425) dL_law_2420 (rfl : 2420 + 3 = 2423) (by decide) (fun _ => ?_) (fun b => absurd e0 b)
    refine k_iload (i := 6) dL_law_2425 (rfl : 2425 + 2 = 2427) rfl ?_
    refine k_if_ne (tgt := 2442) dL_law_2427 (rfl : 2427 + 3 = 2430) (by decide) (fun _ => ?_) (fun b => absurd b (by decide))
    refine k_goto (tgt := 2815) dL_law_2442 (by decide) ?_
    exact l_go go X2 (by omega) (Nat.le_refl _) (Nat.le_refl _)
set_option maxRecDepth 100000 in
set_option maxHeartbeats 4000000 in
theorem lcs_47 {nm : String} {tb : List (Nat × Nat × Nat × Nat)} {b L i t cs ss : Nat} {xs : Nat → Int32} {x : kK} {y : kY} {f : Nat → Int64} {d : Nat → UInt64} (X : RX t x y) (ht : t + 11 < 2 ^ 20) (hi : i + 4 ≤ L) (hL : L ≤ 2048) (hc : cs + 1 ≤ 603072) (hs : ss + 6 ≤ 7182442) (go : LG nm tb b L xs i (t + 11) (cs + 1) (ss + 6)) : kEv (kLw nm tb) RW (FL b L xs) false 2445 [.ref 2000, .ref 0, .ref 116, .ref 128, .ref 129, .int (nI i), .retAddr 0, .retAddr 0, .retAddr 0] [] (h4 x y f d) 130 cs ss := by
  obtain ⟨X2, alt⟩ := q_errorPosition X
  have hK := m_X11_errorPosition (x := x) (r := kHr y (kJ 1 f, kDb 1 d))
  rcases alt with ⟨eo, e0⟩ | ⟨eo, e0⟩
  · rw [eo] at hK
    have hm := v_L_errorPosition (h2 := h4 x y f d) hK rfl rfl
    rw [h4_f] at hm
    refine k_aload_n (i := 1) dL_law_2445 (rfl : 2445 + 1 = 2446) rfl rfl ?_
    refine k_aload_n (i := 3) dL_law_2446 (rfl : 2446 + 1 = 2447) rfl rfl ?_
    refine k_callSTd2 cv_L_325 ⟨Nat.le_of_ble_eq_true rfl, Nat.le_of_ble_eq_true rfl⟩ hm dL_law_2447 (rfl : 2447 + 3 = 2450) rfl (lc1 hc hs) rfl ?_
    refine k_istore (i := 6) dL_law_2450 (rfl : 2450 + 2 = 2452) (Nat.le_of_ble_eq_true rfl) ?_
    refine k_ls (ls2 := [.ref 2000, .ref 0, .ref 116, .ref 128, .ref 129, .int (nI i), .int 0, .retAddr 0, .retAddr 0]) rfl ?_
    refine k_aload_n (i := 2) dL_law_2452 (rfl : 2452 + 1 = 2453) rfl rfl ?_
    refine k_callVd0 cv_L_327 ⟨Nat.le_of_ble_eq_true rfl, Nat.le_of_ble_eq_true rfl⟩ (m_X12_errorPosition (x := y)) dL_law_2453 (rfl : 2453 + 3 = 2456) (Nat.le_of_ble_eq_true rfl) rfl rfl rfl (lc1 hc hs) ?_
    refine k_istore (i := 7) dL_law_2456 (rfl : 2456 + 2 = 2458) (Nat.le_of_ble_eq_true rfl) ?_
    refine k_ls (ls2 := [.ref 2000, .ref 0, .ref 116, .ref 128, .ref 129, .int (nI i), .int 0, .int (f_X12_errorPosition y), .retAddr 0]) rfl ?_
    refine k_aload_n (i := 2) dL_law_2458 (rfl : 2458 + 1 = 2459) rfl rfl ?_
    refine k_callVd0 cv_L_161 ⟨Nat.le_of_ble_eq_true rfl, Nat.le_of_ble_eq_true rfl⟩ (m_X12_thrown (x := (g_X12_errorPosition y))) dL_law_2459 (rfl : 2459 + 3 = 2462) (Nat.le_of_ble_eq_true rfl) rfl rfl rfl (lc1 hc hs) ?_
    refine k_iload (i := 6) dL_law_2462 (rfl : 2462 + 2 = 2464) rfl ?_
    refine k_icmp_eq (tgt := 2469) dL_law_2464 (rfl : 2464 + 3 = 2467) (by decide) (fun _ => ?_) (fun b => absurd e0 b)
    refine k_iload (i := 6) dL_law_2469 (rfl : 2469 + 2 = 2471) rfl ?_
    refine k_if_ne (tgt := 2486) dL_law_2471 (rfl : 2471 + 3 = 2474) (by decide) (fun b => absurd b (by decide)) (fun _ => ?_)
    refine k_aload_n (i := 3) dL_law_2474 (rfl : 2474 + 1 = 2475) rfl rfl ?_
    refine k_iconst (v := 0) dL_law_2475 (rfl : 2475 + 1 = 2476) (by decide) ?_
    refine k_lald dL_law_2476 (rfl : 2476 + 1 = 2477) (Nat.le_of_ble_eq_true rfl) rfl vp_00 ?_
    refine k_iload (i := 7) dL_law_2477 (rfl : 2477 + 2 = 2479) rfl ?_
    refine k_i2l dL_law_2479 (rfl : 2479 + 1 = 2480) ?_
    refine k_lcmp dL_law_2480 (rfl : 2480 + 1 = 2481) ?_
    refine k_if_eq (tgt := 2486) dL_law_2481 (rfl : 2481 + 3 = 2484) (by decide) (fun _ => ?_) (fun b => absurd (lg_cmp_0.2 uL0) b)
    refine k_goto (tgt := 2815) dL_law_2486 (by decide) ?_
    exact l_go go X2 (by omega) (Nat.le_refl _) (Nat.le_refl _)
  · rw [eo] at hK
    have hm := x1_L_errorPosition (h2 := h4 x y f d) hK rfl
    refine k_aload_n (i := 1) dL_law_2445 (rfl : 2445 + 1 = 2446) rfl rfl ?_
    refine k_aload_n (i := 3) dL_law_2446 (rfl : 2446 + 1 = 2447) rfl rfl ?_
    refine k_callSTd2 cv_L_325 ⟨Nat.le_of_ble_eq_true rfl, Nat.le_of_ble_eq_true rfl⟩ hm dL_law_2447 (rfl : 2447 + 3 = 2450) rfl (lc1 hc hs) rfl ?_
    refine k_istore (i := 6) dL_law_2450 (rfl : 2450 + 2 = 2452) (Nat.le_of_ble_eq_true rfl) ?_
    refine k_ls (ls2 := [.ref 2000, .ref 0, .ref 116, .ref 128, .ref 129, .int (nI i), .int 1, .retAddr 0, .retAddr 0]) rfl ?_
    refine k_aload_n (i := 2) dL_law_2452 (rfl : 2452 + 1 = 2453) rfl rfl ?_
    refine k_callVd0 cv_L_327 ⟨Nat.le_of_ble_eq_true rfl, Nat.le_of_ble_eq_true rfl⟩ (m_X12_errorPosition (x := y)) dL_law_2453 (rfl : 2453 + 3 = 2456) (Nat.le_of_ble_eq_true rfl) rfl rfl rfl (lc1 hc hs) ?_
    refine k_istore (i := 7) dL_law_2456 (rfl : 2456 + 2 = 2458) (Nat.le_of_ble_eq_true rfl) ?_
    refine k_ls (ls2 := [.ref 2000, .ref 0, .ref 116, .ref 128, .ref 129, .int (nI i), .int 1, .int (f_X12_errorPosition y), .retAddr 0]) rfl ?_
    refine k_aload_n (i := 2) dL_law_2458 (rfl : 2458 + 1 = 2459) rfl rfl ?_
    refine k_callVd0 cv_L_161 ⟨Nat.le_of_ble_eq_true rfl, Nat.le_of_ble_eq_true rfl⟩ (m_X12_thrown (x := (g_X12_errorPosition y))) dL_law_2459 (rfl : 2459 + 3 = 2462) (Nat.le_of_ble_eq_true rfl) rfl rfl rfl (lc1 hc hs) ?_
    refine k_iload (i := 6) dL_law_2462 (rfl : 2462 + 2 = 2464) rfl ?_
    refine k_icmp_eq (tgt := 2469) dL_law_2464 (rfl : 2464 + 3 = 2467) (by decide) (fun _ => ?_) (fun b => absurd e0 b)
    refine k_iload (i := 6) dL_law_2469 (rfl : 2469 + 2 = 2471) rfl ?_
    refine k_if_ne (tgt := 2486) dL_law_2471 (rfl : 2471 + 3 = 2474) (by decide) (fun _ => ?_) (fun b => absurd b (by decide))
    refine k_goto (tgt := 2815) dL_law_2486 (by decide) ?_
    exact l_go go X2 (by omega) (Nat.le_refl _) (Nat.le_refl _)
set_option maxRecDepth 100000 in
set_option maxHeartbeats 4000000 in
theorem lcs_48 {nm : String} {tb : List (Nat × Nat × Nat × Nat)} {b L i t cs ss : Nat} {xs : Nat → Int32} {x : kK} {y : kY} {f : Nat → Int64} {d : Nat → UInt64} (X : RX t x y) (ht : t + 11 < 2 ^ 20) (hi : i + 4 ≤ L) (hL : L ≤ 2048) (hc : cs + 1 ≤ 603072) (hs : ss + 6 ≤ 7182442) (go : LG nm tb b L xs i (t + 11) (cs + 1) (ss + 6)) : kEv (kLw nm tb) RW (FL b L xs) false 2489 [.ref 2000, .ref 0, .ref 116, .ref 128, .ref 129, .int (nI i), .retAddr 0, .retAddr 0, .retAddr 0] [] (h4 x y f d) 130 cs ss := by
  obtain ⟨X2, alt⟩ := q_failedCommand X
  have hK := m_X11_failedCommand (x := x) (r := kHr y (kJ 1 f, kDb 1 d))
  rcases alt with ⟨eo, e0⟩ | ⟨eo, e0⟩
  · rw [eo] at hK
    have hm := v_L_failedCommand (h2 := h4 x y f d) hK rfl rfl
    rw [h4_f] at hm
    refine k_aload_n (i := 1) dL_law_2489 (rfl : 2489 + 1 = 2490) rfl rfl ?_
    refine k_aload_n (i := 3) dL_law_2490 (rfl : 2490 + 1 = 2491) rfl rfl ?_
    refine k_callSTd2 cv_L_328 ⟨Nat.le_of_ble_eq_true rfl, Nat.le_of_ble_eq_true rfl⟩ hm dL_law_2491 (rfl : 2491 + 3 = 2494) rfl (lc1 hc hs) rfl ?_
    refine k_istore (i := 6) dL_law_2494 (rfl : 2494 + 2 = 2496) (Nat.le_of_ble_eq_true rfl) ?_
    refine k_ls (ls2 := [.ref 2000, .ref 0, .ref 116, .ref 128, .ref 129, .int (nI i), .int 0, .retAddr 0, .retAddr 0]) rfl ?_
    refine k_aload_n (i := 2) dL_law_2496 (rfl : 2496 + 1 = 2497) rfl rfl ?_
    refine k_callVd0 cv_L_330 ⟨Nat.le_of_ble_eq_true rfl, Nat.le_of_ble_eq_true rfl⟩ (m_X12_failedCommand (x := y)) dL_law_2497 (rfl : 2497 + 3 = 2500) (Nat.le_of_ble_eq_true rfl) rfl rfl rfl (lc1 hc hs) ?_
    refine k_istore (i := 7) dL_law_2500 (rfl : 2500 + 2 = 2502) (Nat.le_of_ble_eq_true rfl) ?_
    refine k_ls (ls2 := [.ref 2000, .ref 0, .ref 116, .ref 128, .ref 129, .int (nI i), .int 0, .int (f_X12_failedCommand y), .retAddr 0]) rfl ?_
    refine k_aload_n (i := 2) dL_law_2502 (rfl : 2502 + 1 = 2503) rfl rfl ?_
    refine k_callVd0 cv_L_161 ⟨Nat.le_of_ble_eq_true rfl, Nat.le_of_ble_eq_true rfl⟩ (m_X12_thrown (x := (g_X12_failedCommand y))) dL_law_2503 (rfl : 2503 + 3 = 2506) (Nat.le_of_ble_eq_true rfl) rfl rfl rfl (lc1 hc hs) ?_
    refine k_iload (i := 6) dL_law_2506 (rfl : 2506 + 2 = 2508) rfl ?_
    refine k_icmp_eq (tgt := 2513) dL_law_2508 (rfl : 2508 + 3 = 2511) (by decide) (fun _ => ?_) (fun b => absurd e0 b)
    refine k_iload (i := 6) dL_law_2513 (rfl : 2513 + 2 = 2515) rfl ?_
    refine k_if_ne (tgt := 2530) dL_law_2515 (rfl : 2515 + 3 = 2518) (by decide) (fun b => absurd b (by decide)) (fun _ => ?_)
    refine k_aload_n (i := 3) dL_law_2518 (rfl : 2518 + 1 = 2519) rfl rfl ?_
    refine k_iconst (v := 0) dL_law_2519 (rfl : 2519 + 1 = 2520) (by decide) ?_
    refine k_lald dL_law_2520 (rfl : 2520 + 1 = 2521) (Nat.le_of_ble_eq_true rfl) rfl vp_00 ?_
    refine k_iload (i := 7) dL_law_2521 (rfl : 2521 + 2 = 2523) rfl ?_
    refine k_i2l dL_law_2523 (rfl : 2523 + 1 = 2524) ?_
    refine k_lcmp dL_law_2524 (rfl : 2524 + 1 = 2525) ?_
    refine k_if_eq (tgt := 2530) dL_law_2525 (rfl : 2525 + 3 = 2528) (by decide) (fun _ => ?_) (fun b => absurd (lg_cmp_0.2 uL0) b)
    refine k_goto (tgt := 2815) dL_law_2530 (by decide) ?_
    exact l_go go X2 (by omega) (Nat.le_refl _) (Nat.le_refl _)
  · rw [eo] at hK
    have hm := x1_L_failedCommand (h2 := h4 x y f d) hK rfl
    refine k_aload_n (i := 1) dL_law_2489 (rfl : 2489 + 1 = 2490) rfl rfl ?_
    refine k_aload_n (i := 3) dL_law_2490 (rfl : 2490 + 1 = 2491) rfl rfl ?_
    refine k_callSTd2 cv_L_328 ⟨Nat.le_of_ble_eq_true rfl, Nat.le_of_ble_eq_true rfl⟩ hm dL_law_2491 (rfl : 2491 + 3 = 2494) rfl (lc1 hc hs) rfl ?_
    refine k_istore (i := 6) dL_law_2494 (rfl : 2494 + 2 = 2496) (Nat.le_of_ble_eq_true rfl) ?_
    refine k_ls (ls2 := [.ref 2000, .ref 0, .ref 116, .ref 128, .ref 129, .int (nI i), .int 1, .retAddr 0, .retAddr 0]) rfl ?_
    refine k_aload_n (i := 2) dL_law_2496 (rfl : 2496 + 1 = 2497) rfl rfl ?_
    refine k_callVd0 cv_L_330 ⟨Nat.le_of_ble_eq_true rfl, Nat.le_of_ble_eq_true rfl⟩ (m_X12_failedCommand (x := y)) dL_law_2497 (rfl : 2497 + 3 = 2500) (Nat.le_of_ble_eq_true rfl) rfl rfl rfl (lc1 hc hs) ?_
    refine k_istore (i := 7) dL_law_2500 (rfl : 2500 + 2 = 2502) (Nat.le_of_ble_eq_true rfl) ?_
    refine k_ls (ls2 := [.ref 2000, .ref 0, .ref 116, .ref 128, .ref 129, .int (nI i), .int 1, .int (f_X12_failedCommand y), .retAddr 0]) rfl ?_
    refine k_aload_n (i := 2) dL_law_2502 (rfl : 2502 + 1 = 2503) rfl rfl ?_
    refine k_callVd0 cv_L_161 ⟨Nat.le_of_ble_eq_true rfl, Nat.le_of_ble_eq_true rfl⟩ (m_X12_thrown (x := (g_X12_failedCommand y))) dL_law_2503 (rfl : 2503 + 3 = 2506) (Nat.le_of_ble_eq_true rfl) rfl rfl rfl (lc1 hc hs) ?_
    refine k_iload (i := 6) dL_law_2506 (rfl : 2506 + 2 = 2508) rfl ?_
    refine k_icmp_eq (tgt := 2513) dL_law_2508 (rfl : 2508 + 3 = 2511) (by decide) (fun _ => ?_) (fun b => absurd e0 b)
    refine k_iload (i := 6) dL_law_2513 (rfl : 2513 + 2 = 2515) rfl ?_
    refine k_if_ne (tgt := 2530) dL_law_2515 (rfl : 2515 + 3 = 2518) (by decide) (fun _ => ?_) (fun b => absurd b (by decide))
    refine k_goto (tgt := 2815) dL_law_2530 (by decide) ?_
    exact l_go go X2 (by omega) (Nat.le_refl _) (Nat.le_refl _)
set_option maxRecDepth 100000 in
set_option maxHeartbeats 4000000 in
theorem lcs_49 {nm : String} {tb : List (Nat × Nat × Nat × Nat)} {b L i t cs ss : Nat} {xs : Nat → Int32} {x : kK} {y : kY} {f : Nat → Int64} {d : Nat → UInt64} (X : RX t x y) (ht : t + 11 < 2 ^ 20) (hi : i + 4 ≤ L) (hL : L ≤ 2048) (hc : cs + 1 ≤ 603072) (hs : ss + 6 ≤ 7182442) (go : LG nm tb b L xs i (t + 11) (cs + 1) (ss + 6)) : kEv (kLw nm tb) RW (FL b L xs) false 2533 [.ref 2000, .ref 0, .ref 116, .ref 128, .ref 129, .int (nI i), .retAddr 0, .retAddr 0, .retAddr 0] [] (h4 x y f d) 130 cs ss := by
  obtain ⟨X2, alt⟩ := q_describeRow X (a := (xs (i + 1)))
  have hK := m_X11_describeRow (x := x) (r := kHr y (kJ 1 f, kDb 1 d)) (a1 := (xs (i + 1))) X.R.iv
  rcases alt with ⟨eo, e0⟩ | ⟨eo, e0⟩
  · rw [eo] at hK
    have hm := v_L_describeRow (h2 := h4 (g_X11_describeRow x (xs (i + 1))) y f d) hK rfl rfl
    rw [h4_f] at hm
    refine k_aload_n (i := 1) dL_law_2533 (rfl : 2533 + 1 = 2534) rfl rfl ?_
    refine k_aload_n (i := 0) dL_law_2534 (rfl : 2534 + 1 = 2535) rfl rfl ?_
    refine k_iload (i := 5) dL_law_2535 (rfl : 2535 + 2 = 2537) rfl ?_
    refine k_iconst (v := 1) dL_law_2537 (rfl : 2537 + 1 = 2538) (by decide) ?_
    refine k_iadd dL_law_2538 (rfl : 2538 + 1 = 2539) ?_
    refine k_sld (j := i + 1) dL_law_2539 (rfl : 2539 + 1 = 2540) (nI_add i 1) (by omega) (by omega) ?_
    refine k_aload_n (i := 3) dL_law_2540 (rfl : 2540 + 1 = 2541) rfl rfl ?_
    refine k_callSTd3 cv_L_331 ⟨Nat.le_of_ble_eq_true rfl, Nat.le_of_ble_eq_true rfl⟩ hm dL_law_2541 (rfl : 2541 + 3 = 2544) rfl (lc1 hc hs) rfl ?_
    refine k_istore (i := 6) dL_law_2544 (rfl : 2544 + 2 = 2546) (Nat.le_of_ble_eq_true rfl) ?_
    refine k_ls (ls2 := [.ref 2000, .ref 0, .ref 116, .ref 128, .ref 129, .int (nI i), .int 0, .retAddr 0, .retAddr 0]) rfl ?_
    refine k_aload_n (i := 2) dL_law_2546 (rfl : 2546 + 1 = 2547) rfl rfl ?_
    refine k_aload_n (i := 0) dL_law_2547 (rfl : 2547 + 1 = 2548) rfl rfl ?_
    refine k_iload (i := 5) dL_law_2548 (rfl : 2548 + 2 = 2550) rfl ?_
    refine k_iconst (v := 1) dL_law_2550 (rfl : 2550 + 1 = 2551) (by decide) ?_
    refine k_iadd dL_law_2551 (rfl : 2551 + 1 = 2552) ?_
    refine k_sld (j := i + 1) dL_law_2552 (rfl : 2552 + 1 = 2553) (nI_add i 1) (by omega) (by omega) ?_
    refine k_callVd1 cv_L_333 ⟨Nat.le_of_ble_eq_true rfl, Nat.le_of_ble_eq_true rfl⟩ (m_X12_describeRow (x := y) (a1 := (xs (i + 1))) X.R.mv) dL_law_2553 (rfl : 2553 + 3 = 2556) (Nat.le_of_ble_eq_true rfl) rfl rfl rfl (lc1 hc hs) ?_
    refine k_istore (i := 7) dL_law_2556 (rfl : 2556 + 2 = 2558) (Nat.le_of_ble_eq_true rfl) ?_
    refine k_ls (ls2 := [.ref 2000, .ref 0, .ref 116, .ref 128, .ref 129, .int (nI i), .int 0, .int (f_X12_describeRow y (xs (i + 1))), .retAddr 0]) rfl ?_
    refine k_aload_n (i := 2) dL_law_2558 (rfl : 2558 + 1 = 2559) rfl rfl ?_
    refine k_callVd0 cv_L_161 ⟨Nat.le_of_ble_eq_true rfl, Nat.le_of_ble_eq_true rfl⟩ (m_X12_thrown (x := (g_X12_describeRow y (xs (i + 1))))) dL_law_2559 (rfl : 2559 + 3 = 2562) (Nat.le_of_ble_eq_true rfl) rfl rfl rfl (lc1 hc hs) ?_
    refine k_iload (i := 6) dL_law_2562 (rfl : 2562 + 2 = 2564) rfl ?_
    refine k_icmp_eq (tgt := 2569) dL_law_2564 (rfl : 2564 + 3 = 2567) (by decide) (fun _ => ?_) (fun b => absurd e0 b)
    refine k_iload (i := 6) dL_law_2569 (rfl : 2569 + 2 = 2571) rfl ?_
    refine k_if_ne (tgt := 2586) dL_law_2571 (rfl : 2571 + 3 = 2574) (by decide) (fun b => absurd b (by decide)) (fun _ => ?_)
    refine k_aload_n (i := 3) dL_law_2574 (rfl : 2574 + 1 = 2575) rfl rfl ?_
    refine k_iconst (v := 0) dL_law_2575 (rfl : 2575 + 1 = 2576) (by decide) ?_
    refine k_lald dL_law_2576 (rfl : 2576 + 1 = 2577) (Nat.le_of_ble_eq_true rfl) rfl vp_00 ?_
    refine k_iload (i := 7) dL_law_2577 (rfl : 2577 + 2 = 2579) rfl ?_
    refine k_i2l dL_law_2579 (rfl : 2579 + 1 = 2580) ?_
    refine k_lcmp dL_law_2580 (rfl : 2580 + 1 = 2581) ?_
    refine k_if_eq (tgt := 2586) dL_law_2581 (rfl : 2581 + 3 = 2584) (by decide) (fun _ => ?_) (fun b => absurd (lg_cmp_0.2 uL0) b)
    refine k_goto (tgt := 2815) dL_law_2586 (by decide) ?_
    exact l_go go X2 (by omega) (Nat.le_refl _) (Nat.le_refl _)
  · rw [eo] at hK
    have hm := x1_L_describeRow (h2 := h4 (g_X11_describeRow x (xs (i + 1))) y f d) hK rfl
    refine k_aload_n (i := 1) dL_law_2533 (rfl : 2533 + 1 = 2534) rfl rfl ?_
    refine k_aload_n (i := 0) dL_law_2534 (rfl : 2534 + 1 = 2535) rfl rfl ?_
    refine k_iload (i := 5) dL_law_2535 (rfl : 2535 + 2 = 2537) rfl ?_
    refine k_iconst (v := 1) dL_law_2537 (rfl : 2537 + 1 = 2538) (by decide) ?_
    refine k_iadd dL_law_2538 (rfl : 2538 + 1 = 2539) ?_
    refine k_sld (j := i + 1) dL_law_2539 (rfl : 2539 + 1 = 2540) (nI_add i 1) (by omega) (by omega) ?_
    refine k_aload_n (i := 3) dL_law_2540 (rfl : 2540 + 1 = 2541) rfl rfl ?_
    refine k_callSTd3 cv_L_331 ⟨Nat.le_of_ble_eq_true rfl, Nat.le_of_ble_eq_true rfl⟩ hm dL_law_2541 (rfl : 2541 + 3 = 2544) rfl (lc1 hc hs) rfl ?_
    refine k_istore (i := 6) dL_law_2544 (rfl : 2544 + 2 = 2546) (Nat.le_of_ble_eq_true rfl) ?_
    refine k_ls (ls2 := [.ref 2000, .ref 0, .ref 116, .ref 128, .ref 129, .int (nI i), .int 1, .retAddr 0, .retAddr 0]) rfl ?_
    refine k_aload_n (i := 2) dL_law_2546 (rfl : 2546 + 1 = 2547) rfl rfl ?_
    refine k_aload_n (i := 0) dL_law_2547 (rfl : 2547 + 1 = 2548) rfl rfl ?_
    refine k_iload (i := 5) dL_law_2548 (rfl : 2548 + 2 = 2550) rfl ?_
    refine k_iconst (v := 1) dL_law_2550 (rfl : 2550 + 1 = 2551) (by decide) ?_
    refine k_iadd dL_law_2551 (rfl : 2551 + 1 = 2552) ?_
    refine k_sld (j := i + 1) dL_law_2552 (rfl : 2552 + 1 = 2553) (nI_add i 1) (by omega) (by omega) ?_
    refine k_callVd1 cv_L_333 ⟨Nat.le_of_ble_eq_true rfl, Nat.le_of_ble_eq_true rfl⟩ (m_X12_describeRow (x := y) (a1 := (xs (i + 1))) X.R.mv) dL_law_2553 (rfl : 2553 + 3 = 2556) (Nat.le_of_ble_eq_true rfl) rfl rfl rfl (lc1 hc hs) ?_
    refine k_istore (i := 7) dL_law_2556 (rfl : 2556 + 2 = 2558) (Nat.le_of_ble_eq_true rfl) ?_
    refine k_ls (ls2 := [.ref 2000, .ref 0, .ref 116, .ref 128, .ref 129, .int (nI i), .int 1, .int (f_X12_describeRow y (xs (i + 1))), .retAddr 0]) rfl ?_
    refine k_aload_n (i := 2) dL_law_2558 (rfl : 2558 + 1 = 2559) rfl rfl ?_
    refine k_callVd0 cv_L_161 ⟨Nat.le_of_ble_eq_true rfl, Nat.le_of_ble_eq_true rfl⟩ (m_X12_thrown (x := (g_X12_describeRow y (xs (i + 1))))) dL_law_2559 (rfl : 2559 + 3 = 2562) (Nat.le_of_ble_eq_true rfl) rfl rfl rfl (lc1 hc hs) ?_
    refine k_iload (i := 6) dL_law_2562 (rfl : 2562 + 2 = 2564) rfl ?_
    refine k_icmp_eq (tgt := 2569) dL_law_2564 (rfl : 2564 + 3 = 2567) (by decide) (fun _ => ?_) (fun b => absurd e0 b)
    refine k_iload (i := 6) dL_law_2569 (rfl : 2569 + 2 = 2571) rfl ?_
    refine k_if_ne (tgt := 2586) dL_law_2571 (rfl : 2571 + 3 = 2574) (by decide) (fun _ => ?_) (fun b => absurd b (by decide))
    refine k_goto (tgt := 2815) dL_law_2586 (by decide) ?_
    exact l_go go X2 (by omega) (Nat.le_refl _) (Nat.le_refl _)
set_option maxRecDepth 100000 in
set_option maxHeartbeats 4000000 in
theorem lcs_50 {nm : String} {tb : List (Nat × Nat × Nat × Nat)} {b L i t cs ss : Nat} {xs : Nat → Int32} {x : kK} {y : kY} {f : Nat → Int64} {d : Nat → UInt64} (X : RX t x y) (ht : t + 11 < 2 ^ 20) (hi : i + 4 ≤ L) (hL : L ≤ 2048) (hc : cs + 1 ≤ 603072) (hs : ss + 6 ≤ 7182442) (go : LG nm tb b L xs i (t + 11) (cs + 1) (ss + 6)) : kEv (kLw nm tb) RW (FL b L xs) false 2589 [.ref 2000, .ref 0, .ref 116, .ref 128, .ref 129, .int (nI i), .retAddr 0, .retAddr 0, .retAddr 0] [] (h4 x y f d) 130 cs ss := by
  obtain ⟨X2, alt⟩ := q_describePlea X (by omega) (a := (xs (i + 1)))
  have hK := m_X11_describePlea (x := x) (r := kHr y (kJ 1 f, kDb 1 d)) (a1 := (xs (i + 1))) X.R.iv
  rcases alt with ⟨eo, e0⟩ | ⟨eo, e0⟩
  · rw [eo] at hK
    have hm := v_L_describePlea (h2 := h4 (g_X11_describePlea x (xs (i + 1))) y f d) hK rfl rfl
    rw [h4_f] at hm
    refine k_aload_n (i := 1) dL_law_2589 (rfl : 2589 + 1 = 2590) rfl rfl ?_
    refine k_aload_n (i := 0) dL_law_2590 (rfl : 2590 + 1 = 2591) rfl rfl ?_
    refine k_iload (i := 5) dL_law_2591 (rfl : 2591 + 2 = 2593) rfl ?_
    refine k_iconst (v := 1) dL_law_2593 (rfl : 2593 + 1 = 2594) (by decide) ?_
    refine k_iadd dL_law_2594 (rfl : 2594 + 1 = 2595) ?_
    refine k_sld (j := i + 1) dL_law_2595 (rfl : 2595 + 1 = 2596) (nI_add i 1) (by omega) (by omega) ?_
    refine k_aload_n (i := 3) dL_law_2596 (rfl : 2596 + 1 = 2597) rfl rfl ?_
    refine k_callSTd3 cv_L_334 ⟨Nat.le_of_ble_eq_true rfl, Nat.le_of_ble_eq_true rfl⟩ hm dL_law_2597 (rfl : 2597 + 3 = 2600) rfl (lc1 hc hs) rfl ?_
    refine k_istore (i := 6) dL_law_2600 (rfl : 2600 + 2 = 2602) (Nat.le_of_ble_eq_true rfl) ?_
    refine k_ls (ls2 := [.ref 2000, .ref 0, .ref 116, .ref 128, .ref 129, .int (nI i), .int 0, .retAddr 0, .retAddr 0]) rfl ?_
    refine k_aload_n (i := 2) dL_law_2602 (rfl : 2602 + 1 = 2603) rfl rfl ?_
    refine k_aload_n (i := 0) dL_law_2603 (rfl : 2603 + 1 = 2604) rfl rfl ?_
    refine k_iload (i := 5) dL_law_2604 (rfl : 2604 + 2 = 2606) rfl ?_
    refine k_iconst (v := 1) dL_law_2606 (rfl : 2606 + 1 = 2607) (by decide) ?_
    refine k_iadd dL_law_2607 (rfl : 2607 + 1 = 2608) ?_
    refine k_sld (j := i + 1) dL_law_2608 (rfl : 2608 + 1 = 2609) (nI_add i 1) (by omega) (by omega) ?_
    refine k_callVd1 cv_L_336 ⟨Nat.le_of_ble_eq_true rfl, Nat.le_of_ble_eq_true rfl⟩ (m_X12_describePlea (x := y) (a1 := (xs (i + 1))) X.R.mv (pr_p2 X ht)) dL_law_2609 (rfl : 2609 + 3 = 2612) (Nat.le_of_ble_eq_true rfl) rfl rfl rfl (lc1 hc hs) ?_
    refine k_istore (i := 7) dL_law_2612 (rfl : 2612 + 2 = 2614) (Nat.le_of_ble_eq_true rfl) ?_
    refine k_ls (ls2 := [.ref 2000, .ref 0, .ref 116, .ref 128, .ref 129, .int (nI i), .int 0, .int (f_X12_describePlea y (xs (i + 1))), .retAddr 0]) rfl ?_
    refine k_aload_n (i := 2) dL_law_2614 (rfl : 2614 + 1 = 2615) rfl rfl ?_
    refine k_callVd0 cv_L_161 ⟨Nat.le_of_ble_eq_true rfl, Nat.le_of_ble_eq_true rfl⟩ (m_X12_thrown (x := (g_X12_describePlea y (xs (i + 1))))) dL_law_2615 (rfl : 2615 + 3 = 2618) (Nat.le_of_ble_eq_true rfl) rfl rfl rfl (lc1 hc hs) ?_
    refine k_iload (i := 6) dL_law_2618 (rfl : 2618 + 2 = 2620) rfl ?_
    refine k_icmp_eq (tgt := 2625) dL_law_2620 (rfl : 2620 + 3 = 2623) (by decide) (fun _ => ?_) (fun b => absurd e0 b)
    refine k_iload (i := 6) dL_law_2625 (rfl : 2625 + 2 = 2627) rfl ?_
    refine k_if_ne (tgt := 2642) dL_law_2627 (rfl : 2627 + 3 = 2630) (by decide) (fun b => absurd b (by decide)) (fun _ => ?_)
    refine k_aload_n (i := 3) dL_law_2630 (rfl : 2630 + 1 = 2631) rfl rfl ?_
    refine k_iconst (v := 0) dL_law_2631 (rfl : 2631 + 1 = 2632) (by decide) ?_
    refine k_lald dL_law_2632 (rfl : 2632 + 1 = 2633) (Nat.le_of_ble_eq_true rfl) rfl vp_00 ?_
    refine k_iload (i := 7) dL_law_2633 (rfl : 2633 + 2 = 2635) rfl ?_
    refine k_i2l dL_law_2635 (rfl : 2635 + 1 = 2636) ?_
    refine k_lcmp dL_law_2636 (rfl : 2636 + 1 = 2637) ?_
    refine k_if_eq (tgt := 2642) dL_law_2637 (rfl : 2637 + 3 = 2640) (by decide) (fun _ => ?_) (fun b => absurd (lg_cmp_0.2 uL0) b)
    refine k_goto (tgt := 2815) dL_law_2642 (by decide) ?_
    exact l_go go X2 (by omega) (Nat.le_refl _) (Nat.le_refl _)
  · rw [eo] at hK
    have hm := x1_L_describePlea (h2 := h4 (g_X11_describePlea x (xs (i + 1))) y f d) hK rfl
    refine k_aload_n (i := 1) dL_law_2589 (rfl : 2589 + 1 = 2590) rfl rfl ?_
    refine k_aload_n (i := 0) dL_law_2590 (rfl : 2590 + 1 = 2591) rfl rfl ?_
    refine k_iload (i := 5) dL_law_2591 (rfl : 2591 + 2 = 2593) rfl ?_
    refine k_iconst (v := 1) dL_law_2593 (rfl : 2593 + 1 = 2594) (by decide) ?_
    refine k_iadd dL_law_2594 (rfl : 2594 + 1 = 2595) ?_
    refine k_sld (j := i + 1) dL_law_2595 (rfl : 2595 + 1 = 2596) (nI_add i 1) (by omega) (by omega) ?_
    refine k_aload_n (i := 3) dL_law_2596 (rfl : 2596 + 1 = 2597) rfl rfl ?_
    refine k_callSTd3 cv_L_334 ⟨Nat.le_of_ble_eq_true rfl, Nat.le_of_ble_eq_true rfl⟩ hm dL_law_2597 (rfl : 2597 + 3 = 2600) rfl (lc1 hc hs) rfl ?_
    refine k_istore (i := 6) dL_law_2600 (rfl : 2600 + 2 = 2602) (Nat.le_of_ble_eq_true rfl) ?_
    refine k_ls (ls2 := [.ref 2000, .ref 0, .ref 116, .ref 128, .ref 129, .int (nI i), .int 1, .retAddr 0, .retAddr 0]) rfl ?_
    refine k_aload_n (i := 2) dL_law_2602 (rfl : 2602 + 1 = 2603) rfl rfl ?_
    refine k_aload_n (i := 0) dL_law_2603 (rfl : 2603 + 1 = 2604) rfl rfl ?_
    refine k_iload (i := 5) dL_law_2604 (rfl : 2604 + 2 = 2606) rfl ?_
    refine k_iconst (v := 1) dL_law_2606 (rfl : 2606 + 1 = 2607) (by decide) ?_
    refine k_iadd dL_law_2607 (rfl : 2607 + 1 = 2608) ?_
    refine k_sld (j := i + 1) dL_law_2608 (rfl : 2608 + 1 = 2609) (nI_add i 1) (by omega) (by omega) ?_
    refine k_callVd1 cv_L_336 ⟨Nat.le_of_ble_eq_true rfl, Nat.le_of_ble_eq_true rfl⟩ (m_X12_describePlea (x := y) (a1 := (xs (i + 1))) X.R.mv (pr_p2 X ht)) dL_law_2609 (rfl : 2609 + 3 = 2612) (Nat.le_of_ble_eq_true rfl) rfl rfl rfl (lc1 hc hs) ?_
    refine k_istore (i := 7) dL_law_2612 (rfl : 2612 + 2 = 2614) (Nat.le_of_ble_eq_true rfl) ?_
    refine k_ls (ls2 := [.ref 2000, .ref 0, .ref 116, .ref 128, .ref 129, .int (nI i), .int 1, .int (f_X12_describePlea y (xs (i + 1))), .retAddr 0]) rfl ?_
    refine k_aload_n (i := 2) dL_law_2614 (rfl : 2614 + 1 = 2615) rfl rfl ?_
    refine k_callVd0 cv_L_161 ⟨Nat.le_of_ble_eq_true rfl, Nat.le_of_ble_eq_true rfl⟩ (m_X12_thrown (x := (g_X12_describePlea y (xs (i + 1))))) dL_law_2615 (rfl : 2615 + 3 = 2618) (Nat.le_of_ble_eq_true rfl) rfl rfl rfl (lc1 hc hs) ?_
    refine k_iload (i := 6) dL_law_2618 (rfl : 2618 + 2 = 2620) rfl ?_
    refine k_icmp_eq (tgt := 2625) dL_law_2620 (rfl : 2620 + 3 = 2623) (by decide) (fun _ => ?_) (fun b => absurd e0 b)
    refine k_iload (i := 6) dL_law_2625 (rfl : 2625 + 2 = 2627) rfl ?_
    refine k_if_ne (tgt := 2642) dL_law_2627 (rfl : 2627 + 3 = 2630) (by decide) (fun _ => ?_) (fun b => absurd b (by decide))
    refine k_goto (tgt := 2815) dL_law_2642 (by decide) ?_
    exact l_go go X2 (by omega) (Nat.le_refl _) (Nat.le_refl _)
set_option maxRecDepth 100000 in
set_option maxHeartbeats 4000000 in
theorem lcs_51 {nm : String} {tb : List (Nat × Nat × Nat × Nat)} {b L i t cs ss : Nat} {xs : Nat → Int32} {x : kK} {y : kY} {f : Nat → Int64} {d : Nat → UInt64} (X : RX t x y) (ht : t + 11 < 2 ^ 20) (hi : i + 4 ≤ L) (hL : L ≤ 2048) (hc : cs + 1 ≤ 603072) (hs : ss + 6 ≤ 7182442) (go : LG nm tb b L xs i (t + 11) (cs + 1) (ss + 6)) : kEv (kLw nm tb) RW (FL b L xs) false 2645 [.ref 2000, .ref 0, .ref 116, .ref 128, .ref 129, .int (nI i), .retAddr 0, .retAddr 0, .retAddr 0] [] (h4 x y f d) 130 cs ss := by
  obtain ⟨X2, alt⟩ := q_lineAt X (a := (xs (i + 1)))
  have hK := m_X11_lineAt (x := x) (r := kHr y (kJ 1 f, kDb 1 d)) (a1 := (xs (i + 1))) (pr_ln X) X.O.1
  rcases alt with ⟨eo, e0⟩ | ⟨eo, e0⟩
  · rw [eo] at hK
    have hm := v_L_lineAt (h2 := h4 x y f d) hK rfl rfl
    rw [h4_f] at hm
    refine k_aload_n (i := 1) dL_law_2645 (rfl : 2645 + 1 = 2646) rfl rfl ?_
    refine k_aload_n (i := 0) dL_law_2646 (rfl : 2646 + 1 = 2647) rfl rfl ?_
    refine k_iload (i := 5) dL_law_2647 (rfl : 2647 + 2 = 2649) rfl ?_
    refine k_iconst (v := 1) dL_law_2649 (rfl : 2649 + 1 = 2650) (by decide) ?_
    refine k_iadd dL_law_2650 (rfl : 2650 + 1 = 2651) ?_
    refine k_sld (j := i + 1) dL_law_2651 (rfl : 2651 + 1 = 2652) (nI_add i 1) (by omega) (by omega) ?_
    refine k_aload_n (i := 3) dL_law_2652 (rfl : 2652 + 1 = 2653) rfl rfl ?_
    refine k_callSTd3 cv_L_337 ⟨Nat.le_of_ble_eq_true rfl, Nat.le_of_ble_eq_true rfl⟩ hm dL_law_2653 (rfl : 2653 + 3 = 2656) rfl (lc1 hc hs) rfl ?_
    refine k_istore (i := 6) dL_law_2656 (rfl : 2656 + 2 = 2658) (Nat.le_of_ble_eq_true rfl) ?_
    refine k_ls (ls2 := [.ref 2000, .ref 0, .ref 116, .ref 128, .ref 129, .int (nI i), .int 0, .retAddr 0, .retAddr 0]) rfl ?_
    refine k_aload_n (i := 2) dL_law_2658 (rfl : 2658 + 1 = 2659) rfl rfl ?_
    refine k_aload_n (i := 0) dL_law_2659 (rfl : 2659 + 1 = 2660) rfl rfl ?_
    refine k_iload (i := 5) dL_law_2660 (rfl : 2660 + 2 = 2662) rfl ?_
    refine k_iconst (v := 1) dL_law_2662 (rfl : 2662 + 1 = 2663) (by decide) ?_
    refine k_iadd dL_law_2663 (rfl : 2663 + 1 = 2664) ?_
    refine k_sld (j := i + 1) dL_law_2664 (rfl : 2664 + 1 = 2665) (nI_add i 1) (by omega) (by omega) ?_
    refine k_callVd1 cv_L_339 ⟨Nat.le_of_ble_eq_true rfl, Nat.le_of_ble_eq_true rfl⟩ (m_X12_lineAt (x := y) (a1 := (xs (i + 1))) (pr_l2 X)) dL_law_2665 (rfl : 2665 + 3 = 2668) (Nat.le_of_ble_eq_true rfl) rfl rfl rfl (lc1 hc hs) ?_
    refine k_istore (i := 7) dL_law_2668 (rfl : 2668 + 2 = 2670) (Nat.le_of_ble_eq_true rfl) ?_
    refine k_ls (ls2 := [.ref 2000, .ref 0, .ref 116, .ref 128, .ref 129, .int (nI i), .int 0, .int (f_X12_lineAt y (xs (i + 1))), .retAddr 0]) rfl ?_
    refine k_aload_n (i := 2) dL_law_2670 (rfl : 2670 + 1 = 2671) rfl rfl ?_
    refine k_callVd0 cv_L_161 ⟨Nat.le_of_ble_eq_true rfl, Nat.le_of_ble_eq_true rfl⟩ (m_X12_thrown (x := (g_X12_lineAt y (xs (i + 1))))) dL_law_2671 (rfl : 2671 + 3 = 2674) (Nat.le_of_ble_eq_true rfl) rfl rfl rfl (lc1 hc hs) ?_
    refine k_iload (i := 6) dL_law_2674 (rfl : 2674 + 2 = 2676) rfl ?_
    refine k_icmp_eq (tgt := 2681) dL_law_2676 (rfl : 2676 + 3 = 2679) (by decide) (fun _ => ?_) (fun b => absurd e0 b)
    refine k_iload (i := 6) dL_law_2681 (rfl : 2681 + 2 = 2683) rfl ?_
    refine k_if_ne (tgt := 2698) dL_law_2683 (rfl : 2683 + 3 = 2686) (by decide) (fun b => absurd b (by decide)) (fun _ => ?_)
    refine k_aload_n (i := 3) dL_law_2686 (rfl : 2686 + 1 = 2687) rfl rfl ?_
    refine k_iconst (v := 0) dL_law_2687 (rfl : 2687 + 1 = 2688) (by decide) ?_
    refine k_lald dL_law_2688 (rfl : 2688 + 1 = 2689) (Nat.le_of_ble_eq_true rfl) rfl vp_00 ?_
    refine k_iload (i := 7) dL_law_2689 (rfl : 2689 + 2 = 2691) rfl ?_
    refine k_i2l dL_law_2691 (rfl : 2691 + 1 = 2692) ?_
    refine k_lcmp dL_law_2692 (rfl : 2692 + 1 = 2693) ?_
    refine k_if_eq (tgt := 2698) dL_law_2693 (rfl : 2693 + 3 = 2696) (by decide) (fun _ => ?_) (fun b => absurd (lg_cmp_0.2 uL0) b)
    refine k_goto (tgt := 2815) dL_law_2698 (by decide) ?_
    exact l_go go X2 (by omega) (Nat.le_refl _) (Nat.le_refl _)
  · rw [eo] at hK
    have hm := x1_L_lineAt (h2 := h4 x y f d) hK rfl
    refine k_aload_n (i := 1) dL_law_2645 (rfl : 2645 + 1 = 2646) rfl rfl ?_
    refine k_aload_n (i := 0) dL_law_2646 (rfl : 2646 + 1 = 2647) rfl rfl ?_
    refine k_iload (i := 5) dL_law_2647 (rfl : 2647 + 2 = 2649) rfl ?_
    refine k_iconst (v := 1) dL_law_2649 (rfl : 2649 + 1 = 2650) (by decide) ?_
    refine k_iadd dL_law_2650 (rfl : 2650 + 1 = 2651) ?_
    refine k_sld (j := i + 1) dL_law_2651 (rfl : 2651 + 1 = 2652) (nI_add i 1) (by omega) (by omega) ?_
    refine k_aload_n (i := 3) dL_law_2652 (rfl : 2652 + 1 = 2653) rfl rfl ?_
    refine k_callSTd3 cv_L_337 ⟨Nat.le_of_ble_eq_true rfl, Nat.le_of_ble_eq_true rfl⟩ hm dL_law_2653 (rfl : 2653 + 3 = 2656) rfl (lc1 hc hs) rfl ?_
    refine k_istore (i := 6) dL_law_2656 (rfl : 2656 + 2 = 2658) (Nat.le_of_ble_eq_true rfl) ?_
    refine k_ls (ls2 := [.ref 2000, .ref 0, .ref 116, .ref 128, .ref 129, .int (nI i), .int 1, .retAddr 0, .retAddr 0]) rfl ?_
    refine k_aload_n (i := 2) dL_law_2658 (rfl : 2658 + 1 = 2659) rfl rfl ?_
    refine k_aload_n (i := 0) dL_law_2659 (rfl : 2659 + 1 = 2660) rfl rfl ?_
    refine k_iload (i := 5) dL_law_2660 (rfl : 2660 + 2 = 2662) rfl ?_
    refine k_iconst (v := 1) dL_law_2662 (rfl : 2662 + 1 = 2663) (by decide) ?_
    refine k_iadd dL_law_2663 (rfl : 2663 + 1 = 2664) ?_
    refine k_sld (j := i + 1) dL_law_2664 (rfl : 2664 + 1 = 2665) (nI_add i 1) (by omega) (by omega) ?_
    refine k_callVd1 cv_L_339 ⟨Nat.le_of_ble_eq_true rfl, Nat.le_of_ble_eq_true rfl⟩ (m_X12_lineAt (x := y) (a1 := (xs (i + 1))) (pr_l2 X)) dL_law_2665 (rfl : 2665 + 3 = 2668) (Nat.le_of_ble_eq_true rfl) rfl rfl rfl (lc1 hc hs) ?_
    refine k_istore (i := 7) dL_law_2668 (rfl : 2668 + 2 = 2670) (Nat.le_of_ble_eq_true rfl) ?_
    refine k_ls (ls2 := [.ref 2000, .ref 0, .ref 116, .ref 128, .ref 129, .int (nI i), .int 1, .int (f_X12_lineAt y (xs (i + 1))), .retAddr 0]) rfl ?_
    refine k_aload_n (i := 2) dL_law_2670 (rfl : 2670 + 1 = 2671) rfl rfl ?_
    refine k_callVd0 cv_L_161 ⟨Nat.le_of_ble_eq_true rfl, Nat.le_of_ble_eq_true rfl⟩ (m_X12_thrown (x := (g_X12_lineAt y (xs (i + 1))))) dL_law_2671 (rfl : 2671 + 3 = 2674) (Nat.le_of_ble_eq_true rfl) rfl rfl rfl (lc1 hc hs) ?_
    refine k_iload (i := 6) dL_law_2674 (rfl : 2674 + 2 = 2676) rfl ?_
    refine k_icmp_eq (tgt := 2681) dL_law_2676 (rfl : 2676 + 3 = 2679) (by decide) (fun _ => ?_) (fun b => absurd e0 b)
    refine k_iload (i := 6) dL_law_2681 (rfl : 2681 + 2 = 2683) rfl ?_
    refine k_if_ne (tgt := 2698) dL_law_2683 (rfl : 2683 + 3 = 2686) (by decide) (fun _ => ?_) (fun b => absurd b (by decide))
    refine k_goto (tgt := 2815) dL_law_2698 (by decide) ?_
    exact l_go go X2 (by omega) (Nat.le_refl _) (Nat.le_refl _)
set_option maxRecDepth 100000 in
set_option maxHeartbeats 4000000 in
theorem lcs_52 {nm : String} {tb : List (Nat × Nat × Nat × Nat)} {b L i t cs ss : Nat} {xs : Nat → Int32} {x : kK} {y : kY} {f : Nat → Int64} {d : Nat → UInt64} (X : RX t x y) (ht : t + 11 < 2 ^ 20) (hi : i + 4 ≤ L) (hL : L ≤ 2048) (hc : cs + 1 ≤ 603072) (hs : ss + 6 ≤ 7182442) (go : LG nm tb b L xs i (t + 11) (cs + 1) (ss + 6)) : kEv (kLw nm tb) RW (FL b L xs) false 2701 [.ref 2000, .ref 0, .ref 116, .ref 128, .ref 129, .int (nI i), .retAddr 0, .retAddr 0, .retAddr 0] [] (h4 x y f d) 130 cs ss := by
  obtain ⟨X2, qe, -⟩ := q_isConsistent X (by omega)
  refine k_aload_n (i := 1) dL_law_2701 (rfl : 2701 + 1 = 2702) rfl rfl ?_
  refine k_callVd0 cv_L_340 ⟨Nat.le_of_ble_eq_true rfl, Nat.le_of_ble_eq_true rfl⟩ (m_X11_isConsistent (x := x) X.R.iv X.O.2.1) dL_law_2702 (rfl : 2702 + 3 = 2705) (Nat.le_of_ble_eq_true rfl) rfl rfl rfl (lc0 hc hs) ?_
  refine k_aload_n (i := 2) dL_law_2705 (rfl : 2705 + 1 = 2706) rfl rfl ?_
  refine k_callVd0 cv_L_344 ⟨Nat.le_of_ble_eq_true rfl, Nat.le_of_ble_eq_true rfl⟩ (m_X12_isConsistent (x := y) X.R.mv) dL_law_2706 (rfl : 2706 + 3 = 2709) (Nat.le_of_ble_eq_true rfl) rfl rfl rfl (lc0 hc hs) ?_
  refine k_icmp_eq (tgt := 2815) dL_law_2709 (rfl : 2709 + 3 = 2712) (by decide) (fun _ => ?_) (fun b => absurd qe b)
  exact l_go go X2 (by omega) (show cs ≤ cs + 1 by omega) (show ss ≤ ss + 6 by omega)
set_option maxRecDepth 100000 in
set_option maxHeartbeats 4000000 in
theorem lcs_53 {nm : String} {tb : List (Nat × Nat × Nat × Nat)} {b L i t cs ss : Nat} {xs : Nat → Int32} {x : kK} {y : kY} {f : Nat → Int64} {d : Nat → UInt64} (X : RX t x y) (ht : t + 11 < 2 ^ 20) (hi : i + 4 ≤ L) (hL : L ≤ 2048) (hc : cs + 1 ≤ 603072) (hs : ss + 6 ≤ 7182442) (go : LG nm tb b L xs i (t + 11) (cs + 1) (ss + 6)) : kEv (kLw nm tb) RW (FL b L xs) false 2714 [.ref 2000, .ref 0, .ref 116, .ref 128, .ref 129, .int (nI i), .retAddr 0, .retAddr 0, .retAddr 0] [] (h4 x y f d) 130 cs ss := by
  obtain ⟨X2, alt⟩ := q_undo X
  obtain ⟨c8, hc8, ec8⟩ := X.ch
  have hK := m_X11_undo (x := x) (r := kHr y (kJ 1 f, kDb 1 d)) X.hi
  rcases alt with ⟨eo, e0⟩ | ⟨eo, e0⟩
  · rw [eo] at hK
    have hm := v_L_undo (h2 := h4 (g_X11_undo x) y f d) hK rfl rfl
    rw [h4_f] at hm
    refine k_aload_n (i := 1) dL_law_2714 (rfl : 2714 + 1 = 2715) rfl rfl ?_
    refine k_aload_n (i := 3) dL_law_2715 (rfl : 2715 + 1 = 2716) rfl rfl ?_
    refine k_callSTd2 cv_L_345 ⟨Nat.le_of_ble_eq_true rfl, Nat.le_of_ble_eq_true rfl⟩ hm dL_law_2716 (rfl : 2716 + 3 = 2719) rfl (lc1 hc hs) rfl ?_
    refine k_istore (i := 6) dL_law_2719 (rfl : 2719 + 2 = 2721) (Nat.le_of_ble_eq_true rfl) ?_
    refine k_ls (ls2 := [.ref 2000, .ref 0, .ref 116, .ref 128, .ref 129, .int (nI i), .int 0, .retAddr 0, .retAddr 0]) rfl ?_
    refine k_aload_n (i := 2) dL_law_2721 (rfl : 2721 + 1 = 2722) rfl rfl ?_
    refine k_callVd0 cv_L_347 ⟨Nat.le_of_ble_eq_true rfl, Nat.le_of_ble_eq_true rfl⟩ (m_X12_undo (x := y) hc8 ec8) dL_law_2722 (rfl : 2722 + 3 = 2725) (Nat.le_of_ble_eq_true rfl) rfl rfl rfl (lc1 hc hs) ?_
    refine k_istore (i := 7) dL_law_2725 (rfl : 2725 + 2 = 2727) (Nat.le_of_ble_eq_true rfl) ?_
    refine k_ls (ls2 := [.ref 2000, .ref 0, .ref 116, .ref 128, .ref 129, .int (nI i), .int 0, .int (f_X12_undo y), .retAddr 0]) rfl ?_
    refine k_aload_n (i := 2) dL_law_2727 (rfl : 2727 + 1 = 2728) rfl rfl ?_
    refine k_callVd0 cv_L_161 ⟨Nat.le_of_ble_eq_true rfl, Nat.le_of_ble_eq_true rfl⟩ (m_X12_thrown (x := (g_X12_undo y))) dL_law_2728 (rfl : 2728 + 3 = 2731) (Nat.le_of_ble_eq_true rfl) rfl rfl rfl (lc1 hc hs) ?_
    refine k_iload (i := 6) dL_law_2731 (rfl : 2731 + 2 = 2733) rfl ?_
    refine k_icmp_eq (tgt := 2738) dL_law_2733 (rfl : 2733 + 3 = 2736) (by decide) (fun _ => ?_) (fun b => absurd e0 b)
    refine k_iload (i := 6) dL_law_2738 (rfl : 2738 + 2 = 2740) rfl ?_
    refine k_if_ne (tgt := 2755) dL_law_2740 (rfl : 2740 + 3 = 2743) (by decide) (fun b => absurd b (by decide)) (fun _ => ?_)
    refine k_aload_n (i := 3) dL_law_2743 (rfl : 2743 + 1 = 2744) rfl rfl ?_
    refine k_iconst (v := 0) dL_law_2744 (rfl : 2744 + 1 = 2745) (by decide) ?_
    refine k_lald dL_law_2745 (rfl : 2745 + 1 = 2746) (Nat.le_of_ble_eq_true rfl) rfl vp_00 ?_
    refine k_iload (i := 7) dL_law_2746 (rfl : 2746 + 2 = 2748) rfl ?_
    refine k_i2l dL_law_2748 (rfl : 2748 + 1 = 2749) ?_
    refine k_lcmp dL_law_2749 (rfl : 2749 + 1 = 2750) ?_
    refine k_if_eq (tgt := 2755) dL_law_2750 (rfl : 2750 + 3 = 2753) (by decide) (fun _ => ?_) (fun b => absurd (lg_cmp_0.2 uL0) b)
    refine k_goto (tgt := 2815) dL_law_2755 (by decide) ?_
    exact l_go go X2 (by omega) (Nat.le_refl _) (Nat.le_refl _)
  · rw [eo] at hK
    have hm := x1_L_undo (h2 := h4 (g_X11_undo x) y f d) hK rfl
    refine k_aload_n (i := 1) dL_law_2714 (rfl : 2714 + 1 = 2715) rfl rfl ?_
    refine k_aload_n (i := 3) dL_law_2715 (rfl : 2715 + 1 = 2716) rfl rfl ?_
    refine k_callSTd2 cv_L_345 ⟨Nat.le_of_ble_eq_true rfl, Nat.le_of_ble_eq_true rfl⟩ hm dL_law_2716 (rfl : 2716 + 3 = 2719) rfl (lc1 hc hs) rfl ?_
    refine k_istore (i := 6) dL_law_2719 (rfl : 2719 + 2 = 2721) (Nat.le_of_ble_eq_true rfl) ?_
    refine k_ls (ls2 := [.ref 2000, .ref 0, .ref 116, .ref 128, .ref 129, .int (nI i), .int 1, .retAddr 0, .retAddr 0]) rfl ?_
    refine k_aload_n (i := 2) dL_law_2721 (rfl : 2721 + 1 = 2722) rfl rfl ?_
    refine k_callVd0 cv_L_347 ⟨Nat.le_of_ble_eq_true rfl, Nat.le_of_ble_eq_true rfl⟩ (m_X12_undo (x := y) hc8 ec8) dL_law_2722 (rfl : 2722 + 3 = 2725) (Nat.le_of_ble_eq_true rfl) rfl rfl rfl (lc1 hc hs) ?_
    refine k_istore (i := 7) dL_law_2725 (rfl : 2725 + 2 = 2727) (Nat.le_of_ble_eq_true rfl) ?_
    refine k_ls (ls2 := [.ref 2000, .ref 0, .ref 116, .ref 128, .ref 129, .int (nI i), .int 1, .int (f_X12_undo y), .retAddr 0]) rfl ?_
    refine k_aload_n (i := 2) dL_law_2727 (rfl : 2727 + 1 = 2728) rfl rfl ?_
    refine k_callVd0 cv_L_161 ⟨Nat.le_of_ble_eq_true rfl, Nat.le_of_ble_eq_true rfl⟩ (m_X12_thrown (x := (g_X12_undo y))) dL_law_2728 (rfl : 2728 + 3 = 2731) (Nat.le_of_ble_eq_true rfl) rfl rfl rfl (lc1 hc hs) ?_
    refine k_iload (i := 6) dL_law_2731 (rfl : 2731 + 2 = 2733) rfl ?_
    refine k_icmp_eq (tgt := 2738) dL_law_2733 (rfl : 2733 + 3 = 2736) (by decide) (fun _ => ?_) (fun b => absurd e0 b)
    refine k_iload (i := 6) dL_law_2738 (rfl : 2738 + 2 = 2740) rfl ?_
    refine k_if_ne (tgt := 2755) dL_law_2740 (rfl : 2740 + 3 = 2743) (by decide) (fun _ => ?_) (fun b => absurd b (by decide))
    refine k_goto (tgt := 2815) dL_law_2755 (by decide) ?_
    exact l_go go X2 (by omega) (Nat.le_refl _) (Nat.le_refl _)
set_option maxRecDepth 100000 in
set_option maxHeartbeats 4000000 in
theorem lcs_54 {nm : String} {tb : List (Nat × Nat × Nat × Nat)} {b L i t cs ss : Nat} {xs : Nat → Int32} {x : kK} {y : kY} {f : Nat → Int64} {d : Nat → UInt64} (X : RX t x y) (ht : t + 11 < 2 ^ 20) (hi : i + 4 ≤ L) (hL : L ≤ 2048) (hc : cs + 1 ≤ 603072) (hs : ss + 6 ≤ 7182442) (go : LG nm tb b L xs i (t + 11) (cs + 1) (ss + 6)) : kEv (kLw nm tb) RW (FL b L xs) false 2758 [.ref 2000, .ref 0, .ref 116, .ref 128, .ref 129, .int (nI i), .retAddr 0, .retAddr 0, .retAddr 0] [] (h4 x y f d) 130 cs ss := by
  obtain ⟨X2, qe, -⟩ := q_save X
  refine k_aload_n (i := 1) dL_law_2758 (rfl : 2758 + 1 = 2759) rfl rfl ?_
  refine k_callVd0 cv_L_348 ⟨Nat.le_of_ble_eq_true rfl, Nat.le_of_ble_eq_true rfl⟩ (m_X11_save (x := x)) dL_law_2759 (rfl : 2759 + 3 = 2762) (Nat.le_of_ble_eq_true rfl) rfl rfl rfl (lc0 hc hs) ?_
  refine k_aload_n (i := 2) dL_law_2762 (rfl : 2762 + 1 = 2763) rfl rfl ?_
  refine k_callVd0 cv_L_351 ⟨Nat.le_of_ble_eq_true rfl, Nat.le_of_ble_eq_true rfl⟩ (m_X12_save (x := y)) dL_law_2763 (rfl : 2763 + 3 = 2766) (Nat.le_of_ble_eq_true rfl) rfl rfl rfl (lc0 hc hs) ?_
  refine k_icmp_eq (tgt := 2815) dL_law_2766 (rfl : 2766 + 3 = 2769) (by decide) (fun _ => ?_) (fun b => absurd qe b)
  exact l_go go X2 (by omega) (show cs ≤ cs + 1 by omega) (show ss ≤ ss + 6 by omega)
set_option maxRecDepth 100000 in
set_option maxHeartbeats 4000000 in
theorem lcs_55 {nm : String} {tb : List (Nat × Nat × Nat × Nat)} {b L i t cs ss : Nat} {xs : Nat → Int32} {x : kK} {y : kY} {f : Nat → Int64} {d : Nat → UInt64} (X : RX t x y) (ht : t + 11 < 2 ^ 20) (hi : i + 4 ≤ L) (hL : L ≤ 2048) (hc : cs + 1 ≤ 603072) (hs : ss + 6 ≤ 7182442) (go : LG nm tb b L xs i (t + 11) (cs + 1) (ss + 6)) : kEv (kLw nm tb) RW (FL b L xs) false 2771 [.ref 2000, .ref 0, .ref 116, .ref 128, .ref 129, .int (nI i), .retAddr 0, .retAddr 0, .retAddr 0] [] (h4 x y f d) 130 cs ss := by
  obtain ⟨X2, alt⟩ := q_restore X
  have hK := m_X11_restore (x := x) (r := kHr y (kJ 1 f, kDb 1 d))
  rcases alt with ⟨eo, e0⟩ | ⟨eo, e0⟩
  · rw [eo] at hK
    have hm := v_L_restore (h2 := h4 (g_X11_restore x) y f d) hK rfl rfl
    rw [h4_f] at hm
    refine k_aload_n (i := 1) dL_law_2771 (rfl : 2771 + 1 = 2772) rfl rfl ?_
    refine k_aload_n (i := 3) dL_law_2772 (rfl : 2772 + 1 = 2773) rfl rfl ?_
    refine k_callSTd2 cv_L_352 ⟨Nat.le_of_ble_eq_true rfl, Nat.le_of_ble_eq_true rfl⟩ hm dL_law_2773 (rfl : 2773 + 3 = 2776) rfl (lc1 hc hs) rfl ?_
    refine k_istore (i := 6) dL_law_2776 (rfl : 2776 + 2 = 2778) (Nat.le_of_ble_eq_true rfl) ?_
    refine k_ls (ls2 := [.ref 2000, .ref 0, .ref 116, .ref 128, .ref 129, .int (nI i), .int 0, .retAddr 0, .retAddr 0]) rfl ?_
    refine k_aload_n (i := 2) dL_law_2778 (rfl : 2778 + 1 = 2779) rfl rfl ?_
    refine k_callVd0 cv_L_354 ⟨Nat.le_of_ble_eq_true rfl, Nat.le_of_ble_eq_true rfl⟩ (m_X12_restore (x := y)) dL_law_2779 (rfl : 2779 + 3 = 2782) (Nat.le_of_ble_eq_true rfl) rfl rfl rfl (lc1 hc hs) ?_
    refine k_istore (i := 7) dL_law_2782 (rfl : 2782 + 2 = 2784) (Nat.le_of_ble_eq_true rfl) ?_
    refine k_ls (ls2 := [.ref 2000, .ref 0, .ref 116, .ref 128, .ref 129, .int (nI i), .int 0, .int (f_X12_restore y), .retAddr 0]) rfl ?_
    refine k_aload_n (i := 2) dL_law_2784 (rfl : 2784 + 1 = 2785) rfl rfl ?_
    refine k_callVd0 cv_L_161 ⟨Nat.le_of_ble_eq_true rfl, Nat.le_of_ble_eq_true rfl⟩ (m_X12_thrown (x := (g_X12_restore y))) dL_law_2785 (rfl : 2785 + 3 = 2788) (Nat.le_of_ble_eq_true rfl) rfl rfl rfl (lc1 hc hs) ?_
    refine k_iload (i := 6) dL_law_2788 (rfl : 2788 + 2 = 2790) rfl ?_
    refine k_icmp_eq (tgt := 2795) dL_law_2790 (rfl : 2790 + 3 = 2793) (by decide) (fun _ => ?_) (fun b => absurd e0 b)
    refine k_iload (i := 6) dL_law_2795 (rfl : 2795 + 2 = 2797) rfl ?_
    refine k_if_ne (tgt := 2812) dL_law_2797 (rfl : 2797 + 3 = 2800) (by decide) (fun b => absurd b (by decide)) (fun _ => ?_)
    refine k_aload_n (i := 3) dL_law_2800 (rfl : 2800 + 1 = 2801) rfl rfl ?_
    refine k_iconst (v := 0) dL_law_2801 (rfl : 2801 + 1 = 2802) (by decide) ?_
    refine k_lald dL_law_2802 (rfl : 2802 + 1 = 2803) (Nat.le_of_ble_eq_true rfl) rfl vp_00 ?_
    refine k_iload (i := 7) dL_law_2803 (rfl : 2803 + 2 = 2805) rfl ?_
    refine k_i2l dL_law_2805 (rfl : 2805 + 1 = 2806) ?_
    refine k_lcmp dL_law_2806 (rfl : 2806 + 1 = 2807) ?_
    refine k_if_eq (tgt := 2812) dL_law_2807 (rfl : 2807 + 3 = 2810) (by decide) (fun _ => ?_) (fun b => absurd (lg_cmp_0.2 uL0) b)
    refine k_goto (tgt := 2815) dL_law_2812 (by decide) ?_
    exact l_go go X2 (by omega) (Nat.le_refl _) (Nat.le_refl _)
  · rw [eo] at hK
    have hm := x1_L_restore (h2 := h4 (g_X11_restore x) y f d) hK rfl
    refine k_aload_n (i := 1) dL_law_2771 (rfl : 2771 + 1 = 2772) rfl rfl ?_
    refine k_aload_n (i := 3) dL_law_2772 (rfl : 2772 + 1 = 2773) rfl rfl ?_
    refine k_callSTd2 cv_L_352 ⟨Nat.le_of_ble_eq_true rfl, Nat.le_of_ble_eq_true rfl⟩ hm dL_law_2773 (rfl : 2773 + 3 = 2776) rfl (lc1 hc hs) rfl ?_
    refine k_istore (i := 6) dL_law_2776 (rfl : 2776 + 2 = 2778) (Nat.le_of_ble_eq_true rfl) ?_
    refine k_ls (ls2 := [.ref 2000, .ref 0, .ref 116, .ref 128, .ref 129, .int (nI i), .int 1, .retAddr 0, .retAddr 0]) rfl ?_
    refine k_aload_n (i := 2) dL_law_2778 (rfl : 2778 + 1 = 2779) rfl rfl ?_
    refine k_callVd0 cv_L_354 ⟨Nat.le_of_ble_eq_true rfl, Nat.le_of_ble_eq_true rfl⟩ (m_X12_restore (x := y)) dL_law_2779 (rfl : 2779 + 3 = 2782) (Nat.le_of_ble_eq_true rfl) rfl rfl rfl (lc1 hc hs) ?_
    refine k_istore (i := 7) dL_law_2782 (rfl : 2782 + 2 = 2784) (Nat.le_of_ble_eq_true rfl) ?_
    refine k_ls (ls2 := [.ref 2000, .ref 0, .ref 116, .ref 128, .ref 129, .int (nI i), .int 1, .int (f_X12_restore y), .retAddr 0]) rfl ?_
    refine k_aload_n (i := 2) dL_law_2784 (rfl : 2784 + 1 = 2785) rfl rfl ?_
    refine k_callVd0 cv_L_161 ⟨Nat.le_of_ble_eq_true rfl, Nat.le_of_ble_eq_true rfl⟩ (m_X12_thrown (x := (g_X12_restore y))) dL_law_2785 (rfl : 2785 + 3 = 2788) (Nat.le_of_ble_eq_true rfl) rfl rfl rfl (lc1 hc hs) ?_
    refine k_iload (i := 6) dL_law_2788 (rfl : 2788 + 2 = 2790) rfl ?_
    refine k_icmp_eq (tgt := 2795) dL_law_2790 (rfl : 2790 + 3 = 2793) (by decide) (fun _ => ?_) (fun b => absurd e0 b)
    refine k_iload (i := 6) dL_law_2795 (rfl : 2795 + 2 = 2797) rfl ?_
    refine k_if_ne (tgt := 2812) dL_law_2797 (rfl : 2797 + 3 = 2800) (by decide) (fun _ => ?_) (fun b => absurd b (by decide))
    refine k_goto (tgt := 2815) dL_law_2812 (by decide) ?_
    exact l_go go X2 (by omega) (Nat.le_refl _) (Nat.le_refl _)
