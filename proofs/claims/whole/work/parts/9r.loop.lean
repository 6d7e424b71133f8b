/-! THE LAW'S SWITCH AND ITS LOOP. -/
set_option maxRecDepth 100000 in
theorem lcs_all {nm : String} {tb : List (Nat × Nat × Nat × Nat)} {b L i t cs ss k : Nat} {xs : Nat → Int32} {x : kK} {y : kY} {f : Nat → Int64} {d : Nat → UInt64} (X : RX t x y) (ht : t + 11 < 2 ^ 20) (hi : i + 4 ≤ L) (hL : L ≤ 2048) (hc : cs + 1 ≤ 603072) (hs : ss + 6 ≤ 7182442) (go : LG nm tb b L xs i (t + 11) (cs + 1) (ss + 6)) (hk : k < 64) : kEv (kLw nm tb) RW (FL b L xs) false 44 [.ref 2000, .ref 0, .ref 116, .ref 128, .ref 129, .int (nI i), .retAddr 0, .retAddr 0, .retAddr 0] [.int (nI k)] (h4 x y f d) 130 cs ss := by
  have all : ∀ q, q < 56 → kEv (kLw nm tb) RW (FL b L xs) false 44 [.ref 2000, .ref 0, .ref 116, .ref 128, .ref 129, .int (nI i), .retAddr 0, .retAddr 0, .retAddr 0] [.int (nI q)] (h4 x y f d) 130 cs ss := by
    refine al_s (n := 55) ?_ (k_tableIn (off := 2727) (tgt := 2771) dL_law_44 (by decide) (by decide) rfl (by decide) (lcs_55 X ht hi hL hc hs go)) 
    refine al_s (n := 54) ?_ (k_tableIn (off := 2714) (tgt := 2758) dL_law_44 (by decide) (by decide) rfl (by decide) (lcs_54 X ht hi hL hc hs go)) 
    refine al_s (n := 53) ?_ (k_tableIn (off := 2670) (tgt := 2714) dL_law_44 (by decide) (by decide) rfl (by decide) (lcs_53 X ht hi hL hc hs go)) 
    refine al_s (n := 52) ?_ (k_tableIn (off := 2657) (tgt := 2701) dL_law_44 (by decide) (by decide) rfl (by decide) (lcs_52 X ht hi hL hc hs go)) 
    refine al_s (n := 51) ?_ (k_tableIn (off := 2601) (tgt := 2645) dL_law_44 (by decide) (by decide) rfl (by decide) (lcs_51 X ht hi hL hc hs go)) 
    refine al_s (n := 50) ?_ (k_tableIn (off := 2545) (tgt := 2589) dL_law_44 (by decide) (by decide) rfl (by decide) (lcs_50 X ht hi hL hc hs go)) 
    refine al_s (n := 49) ?_ (k_tableIn (off := 2489) (tgt := 2533) dL_law_44 (by decide) (by decide) rfl (by decide) (lcs_49 X ht hi hL hc hs go)) 
    refine al_s (n := 48) ?_ (k_tableIn (off := 2445) (tgt := 2489) dL_law_44 (by decide) (by decide) rfl (by decide) (lcs_48 X ht hi hL hc hs go)) 
    refine al_s (n := 47) ?_ (k_tableIn (off := 2401) (tgt := 2445) dL_law_44 (by decide) (by decide) rfl (by decide) (lcs_47 X ht hi hL hc hs go)) 
    refine al_s (n := 46) ?_ (k_tableIn (off := 2357) (tgt := 2401) dL_law_44 (by decide) (by decide) rfl (by decide) (lcs_46 X ht hi hL hc hs go)) 
    refine al_s (n := 45) ?_ (k_tableIn (off := 2299) (tgt := 2343) dL_law_44 (by decide) (by decide) rfl (by decide) (lcs_45 X ht hi hL hc hs go)) 
    refine al_s (n := 44) ?_ (k_tableIn (off := 2285) (tgt := 2329) dL_law_44 (by decide) (by decide) rfl (by decide) (lcs_44 X ht hi hL hc hs go)) 
    refine al_s (n := 43) ?_ (k_tableIn (off := 2220) (tgt := 2264) dL_law_44 (by decide) (by decide) rfl (by decide) (lcs_43 X ht hi hL hc hs go)) 
    refine al_s (n := 42) ?_ (k_tableIn (off := 2176) (tgt := 2220) dL_law_44 (by decide) (by decide) rfl (by decide) (lcs_42 X ht hi hL hc hs go)) 
    refine al_s (n := 41) ?_ (k_tableIn (off := 2110) (tgt := 2154) dL_law_44 (by decide) (by decide) rfl (by decide) (lcs_41 X ht hi hL hc hs go)) 
    refine al_s (n := 40) ?_ (k_tableIn (off := 2066) (tgt := 2110) dL_law_44 (by decide) (by decide) rfl (by decide) (lcs_40 X ht hi hL hc hs go)) 
    refine al_s (n := 39) ?_ (k_tableIn (off := 2022) (tgt := 2066) dL_law_44 (by decide) (by decide) rfl (by decide) (lcs_39 X ht hi hL hc hs go)) 
    refine al_s (n := 38) ?_ (k_tableIn (off := 2009) (tgt := 2053) dL_law_44 (by decide) (by decide) rfl (by decide) (lcs_38 X ht hi hL hc hs go)) 
    refine al_s (n := 37) ?_ (k_tableIn (off := 1996) (tgt := 2040) dL_law_44 (by decide) (by decide) rfl (by decide) (lcs_37 X ht hi hL hc hs go)) 
    refine al_s (n := 36) ?_ (k_tableIn (off := 1983) (tgt := 2027) dL_law_44 (by decide) (by decide) rfl (by decide) (lcs_36 X ht hi hL hc hs go)) 
    refine al_s (n := 35) ?_ (k_tableIn (off := 1927) (tgt := 1971) dL_law_44 (by decide) (by decide) rfl (by decide) (lcs_35 X ht hi hL hc hs go)) 
    refine al_s (n := 34) ?_ (k_tableIn (off := 1914) (tgt := 1958) dL_law_44 (by decide) (by decide) rfl (by decide) (lcs_34 X ht hi hL hc hs go)) 
    refine al_s (n := 33) ?_ (k_tableIn (off := 1901) (tgt := 1945) dL_law_44 (by decide) (by decide) rfl (by decide) (lcs_33 X ht hi hL hc hs go)) 
    refine al_s (n := 32) ?_ (k_tableIn (off := 1845) (tgt := 1889) dL_law_44 (by decide) (by decide) rfl (by decide) (lcs_32 X ht hi hL hc hs go)) 
    refine al_s (n := 31) ?_ (k_tableIn (off := 1789) (tgt := 1833) dL_law_44 (by decide) (by decide) rfl (by decide) (lcs_31 X ht hi hL hc hs go)) 
    refine al_s (n := 30) ?_ (k_tableIn (off := 1733) (tgt := 1777) dL_law_44 (by decide) (by decide) rfl (by decide) (lcs_30 X ht hi hL hc hs go)) 
    refine al_s (n := 29) ?_ (k_tableIn (off := 1677) (tgt := 1721) dL_law_44 (by decide) (by decide) rfl (by decide) (lcs_29 X ht hi hL hc hs go)) 
    refine al_s (n := 28) ?_ (k_tableIn (off := 1664) (tgt := 1708) dL_law_44 (by decide) (by decide) rfl (by decide) (lcs_28 X ht hi hL hc hs go)) 
    refine al_s (n := 27) ?_ (k_tableIn (off := 1651) (tgt := 1695) dL_law_44 (by decide) (by decide) rfl (by decide) (lcs_27 X ht hi hL hc hs go)) 
    refine al_s (n := 26) ?_ (k_tableIn (off := 1560) (tgt := 1604) dL_law_44 (by decide) (by decide) rfl (by decide) (lcs_26 X ht hi hL hc hs go)) 
    refine al_s (n := 25) ?_ (k_tableIn (off := 1547) (tgt := 1591) dL_law_44 (by decide) (by decide) rfl (by decide) (lcs_25 X ht hi hL hc hs go)) 
    refine al_s (n := 24) ?_ (k_tableIn (off := 1534) (tgt := 1578) dL_law_44 (by decide) (by decide) rfl (by decide) (lcs_24 X ht hi hL hc hs go)) 
    refine al_s (n := 23) ?_ (k_tableIn (off := 1478) (tgt := 1522) dL_law_44 (by decide) (by decide) rfl (by decide) (lcs_23 X ht hi hL hc hs go)) 
    refine al_s (n := 22) ?_ (k_tableIn (off := 1403) (tgt := 1447) dL_law_44 (by decide) (by decide) rfl (by decide) (lcs_22 X ht hi hL hc hs go)) 
    refine al_s (n := 21) ?_ (k_tableIn (off := 1347) (tgt := 1391) dL_law_44 (by decide) (by decide) rfl (by decide) (lcs_21 X ht hi hL hc hs go)) 
    refine al_s (n := 20) ?_ (k_tableIn (off := 1292) (tgt := 1336) dL_law_44 (by decide) (by decide) rfl (by decide) (lcs_20 X ht hi hL hc hs go)) 
    refine al_s (n := 19) ?_ (k_tableIn (off := 1237) (tgt := 1281) dL_law_44 (by decide) (by decide) rfl (by decide) (lcs_19 X ht hi hL hc hs go)) 
    refine al_s (n := 18) ?_ (k_tableIn (off := 1182) (tgt := 1226) dL_law_44 (by decide) (by decide) rfl (by decide) (lcs_18 X ht hi hL hc hs go)) 
    refine al_s (n := 17) ?_ (k_tableIn (off := 1126) (tgt := 1170) dL_law_44 (by decide) (by decide) rfl (by decide) (lcs_17 X ht hi hL hc hs go)) 
    refine al_s (n := 16) ?_ (k_tableIn (off := 1058) (tgt := 1102) dL_law_44 (by decide) (by decide) rfl (by decide) (lcs_16 X ht hi hL hc hs go)) 
    refine al_s (n := 15) ?_ (k_tableIn (off := 1002) (tgt := 1046) dL_law_44 (by decide) (by decide) rfl (by decide) (lcs_15 X ht hi hL hc hs go)) 
    refine al_s (n := 14) ?_ (k_tableIn (off := 946) (tgt := 990) dL_law_44 (by decide) (by decide) rfl (by decide) (lcs_14 X ht hi hL hc hs go)) 
    refine al_s (n := 13) ?_ (k_tableIn (off := 878) (tgt := 922) dL_law_44 (by decide) (by decide) rfl (by decide) (lcs_13 X ht hi hL hc hs go)) 
    refine al_s (n := 12) ?_ (k_tableIn (off := 822) (tgt := 866) dL_law_44 (by decide) (by decide) rfl (by decide) (lcs_12 X ht hi hL hc hs go)) 
    refine al_s (n := 11) ?_ (k_tableIn (off := 809) (tgt := 853) dL_law_44 (by decide) (by decide) rfl (by decide) (lcs_11 X ht hi hL hc hs go)) 
    refine al_s (n := 10) ?_ (k_tableIn (off := 729) (tgt := 773) dL_law_44 (by decide) (by decide) rfl (by decide) (lcs_10 X ht hi hL hc hs go)) 
    refine al_s (n := 9) ?_ (k_tableIn (off := 661) (tgt := 705) dL_law_44 (by decide) (by decide) rfl (by decide) (lcs_9 X ht hi hL hc hs go)) 
    refine al_s (n := 8) ?_ (k_tableIn (off := 648) (tgt := 692) dL_law_44 (by decide) (by decide) rfl (by decide) (lcs_8 X ht hi hL hc hs go)) 
    refine al_s (n := 7) ?_ (k_tableIn (off := 580) (tgt := 624) dL_law_44 (by decide) (by decide) rfl (by decide) (lcs_7 X ht hi hL hc hs go)) 
    refine al_s (n := 6) ?_ (k_tableIn (off := 513) (tgt := 557) dL_law_44 (by decide) (by decide) rfl (by decide) (lcs_6 X ht hi hL hc hs go)) 
    refine al_s (n := 5) ?_ (k_tableIn (off := 446) (tgt := 490) dL_law_44 (by decide) (by decide) rfl (by decide) (lcs_5 X ht hi hL hc hs go)) 
    refine al_s (n := 4) ?_ (k_tableIn (off := 432) (tgt := 476) dL_law_44 (by decide) (by decide) rfl (by decide) (lcs_4 X ht hi hL hc hs go)) 
    refine al_s (n := 3) ?_ (k_tableIn (off := 418) (tgt := 462) dL_law_44 (by decide) (by decide) rfl (by decide) (lcs_3 X ht hi hL hc hs go)) 
    refine al_s (n := 2) ?_ (k_tableIn (off := 404) (tgt := 448) dL_law_44 (by decide) (by decide) rfl (by decide) (lcs_2 X ht hi hL hc hs go)) 
    refine al_s (n := 1) ?_ (k_tableIn (off := 336) (tgt := 380) dL_law_44 (by decide) (by decide) rfl (by decide) (lcs_1 X ht hi hL hc hs go)) 
    refine al_s (n := 0) ?_ (k_tableIn (off := 240) (tgt := 284) dL_law_44 (by decide) (by decide) rfl (by decide) (lcs_0 X ht hi hL hc hs go)) 
    exact al_z
  by_cases h56 : k < 56
  · exact all k h56
  · have out : ∀ k, k < 64 → ¬ k < 56 → (nI k).toInt < 0 ∨ 55 < (nI k).toInt := by decide
    exact k_tableOut (tgt := 2815) dL_law_44 (out k hk h56) (by decide) (l_go go X (by omega) (by omega) (by omega))
/-- the loop: n calls are done, at most k are left -/
theorem law_loop {nm : String} {tb : List (Nat × Nat × Nat × Nat)} {b L : Nat} {xs : Nat → Int32} (hL : L ≤ 2048) {k : Nat} : ∀ {n cs ss : Nat} {x : kK} {y : kY} {f : Nat → Int64} {d : Nat → UInt64}, L < 4 * n + 4 * k + 4 → n ≤ 513 → RX (11 * n) x y → cs ≤ 1000 + n → ss ≤ 10000 + 6 * n → kEv (kLw nm tb) RW (FL b L xs) false 28 [.ref 2000, .ref 0, .ref 116, .ref 128, .ref 129, .int (nI (4 * n)), .retAddr 0, .retAddr 0, .retAddr 0] [] (h4 x y f d) 130 cs ss := by
  -- behind the last call
  have fin : ∀ {n cs ss : Nat} {x : kK} {y : kY} {f : Nat → Int64} {d : Nat → UInt64}, L < 4 * n + 4 → n ≤ 513 → cs ≤ 1000 + n → ss ≤ 10000 + 6 * n → kEv (kLw nm tb) RW (FL b L xs) false 28 [.ref 2000, .ref 0, .ref 116, .ref 128, .ref 129, .int (nI (4 * n)), .retAddr 0, .retAddr 0, .retAddr 0] [] (h4 x y f d) 130 cs ss := by
    intro n cs ss x y f d h1 h2 h3 h4
    have lt : nI L - 4 < nI (4 * n) := by
      by_cases z : 4 ≤ L
      · rw [show (4 : Int32) = nI 4 from rfl, pk_sub z]
        exact nI_lt (by omega) (by omega)
      · have a : nI L - nI 4 < 0 := pk_sneg (by omega) (by omega)
        have c := nI_pos' (n := 4 * n) (by omega)
        exact Int32.lt_of_lt_of_le a c
    refine k_iload (i := 5) dL_law_28 (rfl : 28 + 2 = 30) rfl ?_
    refine k_aload_n (i := 0) dL_law_30 (rfl : 30 + 1 = 31) rfl rfl ?_
    refine k_slen0 dL_law_31 (rfl : 31 + 1 = 32) ?_
    refine k_iconst (v := 4) dL_law_32 (rfl : 32 + 1 = 33) (by decide) ?_
    refine k_isub dL_law_33 (rfl : 33 + 1 = 34) ?_
    refine k_icmp_gt (tgt := 2821) dL_law_34 (rfl : 34 + 3 = 37) (by decide) (fun _ => ?_) (fun b => absurd lt b)
    refine k_iconst (v := 1) dL_law_2821 (rfl : 2821 + 1 = 2822) (by decide) ?_
    exact k_lend dL_law_2822 (by omega) (by omega)
  induction k with
  | zero => intro n cs ss x y f d h1 h2 X h3 h4; exact fin (by omega) h2 h3 h4
  | succ k ih =>
    intro n cs ss x y f d h1 h2 X h3 h4
    by_cases c : 4 * n + 4 ≤ L
    · have nlt : ¬ nI L - 4 < nI (4 * n) := by
        rw [show (4 : Int32) = nI 4 from rfl, pk_sub (show 4 ≤ L by omega)]
        exact nI_nlt (by omega) (by omega)
      refine k_iload (i := 5) dL_law_28 (rfl : 28 + 2 = 30) rfl ?_
      refine k_aload_n (i := 0) dL_law_30 (rfl : 30 + 1 = 31) rfl rfl ?_
      refine k_slen0 dL_law_31 (rfl : 31 + 1 = 32) ?_
      refine k_iconst (v := 4) dL_law_32 (rfl : 32 + 1 = 33) (by decide) ?_
      refine k_isub dL_law_33 (rfl : 33 + 1 = 34) ?_
      refine k_icmp_gt (tgt := 2821) dL_law_34 (rfl : 34 + 3 = 37) (by decide) (fun b => absurd b nlt) (fun _ => ?_)
      refine k_aload_n (i := 0) dL_law_37 (rfl : 37 + 1 = 38) rfl rfl ?_
      refine k_iload (i := 5) dL_law_38 (rfl : 38 + 2 = 40) rfl ?_
      refine k_sld (j := 4 * n) dL_law_40 (rfl : 40 + 1 = 41) rfl (by omega) (by omega) ?_
      refine k_bipush (v := 63) dL_law_41 (rfl : 41 + 2 = 43) (by decide) ?_
      refine k_iand dL_law_43 (rfl : 43 + 1 = 44) ?_
      rw [pk_and (xs (4 * n)) (m := 63) 6 (by decide)]
      refine lcs_all X (by omega) c hL (by omega) (by omega) (fun x2 y2 f2 d2 cs2 ss2 X2 hc2 hs2 => ?_) (Nat.mod_lt _ (by decide))
      refine k_iinc (i := 5) (v := nI (4 * (n + 1))) dL_law_2815 (rfl : 2815 + 3 = 2818) rfl (Nat.le_of_ble_eq_true rfl) ((nI_add (4 * n) 4).trans (by rw [show 4 * n + 4 = 4 * (n + 1) by omega])) ?_
      refine k_ls (ls2 := [.ref 2000, .ref 0, .ref 116, .ref 128, .ref 129, .int (nI (4 * (n + 1))), .retAddr 0, .retAddr 0, .retAddr 0]) rfl ?_
      refine k_goto (tgt := 28) dL_law_2818 (by decide) ?_
      exact ih (n := n + 1) (by omega) (by omega) (by rw [show 11 * (n + 1) = 11 * n + 11 by omega]; exact X2) (by omega) (by omega)
    · exact fin (by omega) h2 h3 h4
