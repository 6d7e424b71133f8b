theorem kIv_same {c d : kCo} (h : ∀ k, k < 7 → d.2.1 k = c.2.1 k) (iv : kIv c) : kIv d := by
  obtain ⟨a, b, e, f, g⟩ := iv
  exact ⟨(h 3 (by omega)).symm ▸ a, (h 6 (by omega)).symm ▸ b, (h 0 (by omega)).symm ▸ e, (h 1 (by omega)).symm ▸ f, (h 2 (by omega)).symm ▸ g⟩
theorem gc_refuse {x : kK} {a b : Int32} : (g_X11_refuse x a b).1 = x.1 := rfl
theorem gc_refuseTreeIn {x : kK} {a : Int32} : (g_X11_refuseTreeIn x a).1 = x.1 := by unfold g_X11_refuseTreeIn; split <;> rfl
theorem gc_refusePartyIn {x : kK} {a : Int32} : (g_X11_refusePartyIn x a).1 = x.1 := by unfold g_X11_refusePartyIn; split <;> rfl
theorem gc_refuseBenchIn {x : kK} {a : Int32} : (g_X11_refuseBenchIn x a).1 = x.1 := by unfold g_X11_refuseBenchIn; split <;> rfl
theorem b2i_ne {p : Prop} [Decidable p] (h : ¬ b2i (decide p) = 0) : p := by
  rcases Classical.em p with q | q
  · exact q
  · rw [decide_eq_false q] at h; exact absurd rfl h
theorem b2i_eq {p : Prop} [Decidable p] (h : b2i (decide p) = 0) : ¬ p := by
  intro q
  rw [decide_eq_true q] at h; exact absurd h (by decide)
theorem kIv_pa {c : kCo} {a : Int32} (iv : kIv c) (h : ¬ b2i (decide (0 ≤ a ∧ a < c.2.1 3)) = 0) : vp_in a 8 := by
  obtain ⟨n, hn, e⟩ := iv.1
  have h := b2i_ne h
  rw [e] at h
  refine vp_in_iff.mpr ?_
  have h2 := h.2
  have h1 := h.1
  rw [Int32.lt_iff_toInt_lt] at h2
  rw [Int32.le_iff_toInt_le] at h1
  rw [nI_toInt (by omega)] at h2
  exact ⟨h1, by omega⟩
theorem kIv_pb {x : kK} {a : Int32} (iv : kIv (x.1 0)) (h : ¬ f_X3_hasPlea x a = 0) : ∃ l n, l < n ∧ n ≤ 8 ∧ (x.1 0).2.1 6 = nI n ∧ a = nI l := by
  obtain ⟨n, hn, e⟩ := iv.2.1
  unfold f_X3_hasPlea at h
  rcases Classical.em (a < 0) with q | q
  · rw [if_pos q] at h; exact absurd rfl h
  rw [if_neg q] at h
  rcases Classical.em ((x.1 0).2.1 6 ≤ a) with q2 | q2
  · rw [if_pos q2] at h; exact absurd rfl h
  obtain ⟨l, hl, rfl⟩ := nI_of q
  rw [e] at q2
  refine ⟨l, n, ?_, hn, e, rfl⟩
  rcases Nat.lt_or_ge l n with q3 | q3
  · exact q3
  · exact absurd (nI_le (a := n) (b := l) q3 (by omega)) q2
theorem kIv_pc {x : kK} {a : Int32} (iv : kIv (x.1 0)) (h : ¬ f_X3_hasPlea x a = 0) : vp_in a 8 := by
  obtain ⟨l, n, h1, h2, h3, rfl⟩ := kIv_pb iv h
  exact vp_in_nI (by omega) (by omega)
def f_J13_bitCount_95d88 (a1 : Int64) : Int32 := ((Int64.toInt32 ((((((((a1 - ((Int64.toUInt64 a1 >>> (Int64.toUInt64 (Int32.toInt64 1) &&& Int64.toUInt64 63)).toInt64 &&& (6148914691236517205 : Int64))) &&& (3689348814741910323 : Int64)) + ((Int64.toUInt64 (a1 - ((Int64.toUInt64 a1 >>> (Int64.toUInt64 (Int32.toInt64 1) &&& Int64.toUInt64 63)).toInt64 &&& (6148914691236517205 : Int64))) >>> (Int64.toUInt64 (Int32.toInt64 2) &&& Int64.toUInt64 63)).toInt64 &&& (3689348814741910323 : Int64))) + (Int64.toUInt64 (((a1 - ((Int64.toUInt64 a1 >>> (Int64.toUInt64 (Int32.toInt64 1) &&& Int64.toUInt64 63)).toInt64 &&& (6148914691236517205 : Int64))) &&& (3689348814741910323 : Int64)) + ((Int64.toUInt64 (a1 - ((Int64.toUInt64 a1 >>> (Int64.toUInt64 (Int32.toInt64 1) &&& Int64.toUInt64 63)).toInt64 &&& (6148914691236517205 : Int64))) >>> (Int64.toUInt64 (Int32.toInt64 2) &&& Int64.toUInt64 63)).toInt64 &&& (3689348814741910323 : Int64))) >>> (Int64.toUInt64 (Int32.toInt64 4) &&& Int64.toUInt64 63)).toInt64) &&& (1085102592571150095 : Int64)) + (Int64.toUInt64 (((((a1 - ((Int64.toUInt64 a1 >>> (Int64.toUInt64 (Int32.toInt64 1) &&& Int64.toUInt64 63)).toInt64 &&& (6148914691236517205 : Int64))) &&& (3689348814741910323 : Int64)) + ((Int64.toUInt64 (a1 - ((Int64.toUInt64 a1 >>> (Int64.toUInt64 (Int32.toInt64 1) &&& Int64.toUInt64 63)).toInt64 &&& (6148914691236517205 : Int64))) >>> (Int64.toUInt64 (Int32.toInt64 2) &&& Int64.toUInt64 63)).toInt64 &&& (3689348814741910323 : Int64))) + (Int64.toUInt64 (((a1 - ((Int64.toUInt64 a1 >>> (Int64.toUInt64 (Int32.toInt64 1) &&& Int64.toUInt64 63)).toInt64 &&& (6148914691236517205 : Int64))) &&& (3689348814741910323 : Int64)) + ((Int64.toUInt64 (a1 - ((Int64.toUInt64 a1 >>> (Int64.toUInt64 (Int32.toInt64 1) &&& Int64.toUInt64 63)).toInt64 &&& (6148914691236517205 : Int64))) >>> (Int64.toUInt64 (Int32.toInt64 2) &&& Int64.toUInt64 63)).toInt64 &&& (3689348814741910323 : Int64))) >>> (Int64.toUInt64 (Int32.toInt64 4) &&& Int64.toUInt64 63)).toInt64) &&& (1085102592571150095 : Int64)) >>> (Int64.toUInt64 (Int32.toInt64 8) &&& Int64.toUInt64 63)).toInt64) + (Int64.toUInt64 ((((((a1 - ((Int64.toUInt64 a1 >>> (Int64.toUInt64 (Int32.toInt64 1) &&& Int64.toUInt64 63)).toInt64 &&& (6148914691236517205 : Int64))) &&& (3689348814741910323 : Int64)) + ((Int64.toUInt64 (a1 - ((Int64.toUInt64 a1 >>> (Int64.toUInt64 (Int32.toInt64 1) &&& Int64.toUInt64 63)).toInt64 &&& (6148914691236517205 : Int64))) >>> (Int64.toUInt64 (Int32.toInt64 2) &&& Int64.toUInt64 63)).toInt64 &&& (3689348814741910323 : Int64))) + (Int64.toUInt64 (((a1 - ((Int64.toUInt64 a1 >>> (Int64.toUInt64 (Int32.toInt64 1) &&& Int64.toUInt64 63)).toInt64 &&& (6148914691236517205 : Int64))) &&& (3689348814741910323 : Int64)) + ((Int64.toUInt64 (a1 - ((Int64.toUInt64 a1 >>> (Int64.toUInt64 (Int32.toInt64 1) &&& Int64.toUInt64 63)).toInt64 &&& (6148914691236517205 : Int64))) >>> (Int64.toUInt64 (Int32.toInt64 2) &&& Int64.toUInt64 63)).toInt64 &&& (3689348814741910323 : Int64))) >>> (Int64.toUInt64 (Int32.toInt64 4) &&& Int64.toUInt64 63)).toInt64) &&& (1085102592571150095 : Int64)) + (Int64.toUInt64 (((((a1 - ((Int64.toUInt64 a1 >>> (Int64.toUInt64 (Int32.toInt64 1) &&& Int64.toUInt64 63)).toInt64 &&& (6148914691236517205 : Int64))) &&& (3689348814741910323 : Int64)) + ((Int64.toUInt64 (a1 - ((Int64.toUInt64 a1 >>> (Int64.toUInt64 (Int32.toInt64 1) &&& Int64.toUInt64 63)).toInt64 &&& (6148914691236517205 : Int64))) >>> (Int64.toUInt64 (Int32.toInt64 2) &&& Int64.toUInt64 63)).toInt64 &&& (3689348814741910323 : Int64))) + (Int64.toUInt64 (((a1 - ((Int64.toUInt64 a1 >>> (Int64.toUInt64 (Int32.toInt64 1) &&& Int64.toUInt64 63)).toInt64 &&& (6148914691236517205 : Int64))) &&& (3689348814741910323 : Int64)) + ((Int64.toUInt64 (a1 - ((Int64.toUInt64 a1 >>> (Int64.toUInt64 (Int32.toInt64 1) &&& Int64.toUInt64 63)).toInt64 &&& (6148914691236517205 : Int64))) >>> (Int64.toUInt64 (Int32.toInt64 2) &&& Int64.toUInt64 63)).toInt64 &&& (3689348814741910323 : Int64))) >>> (Int64.toUInt64 (Int32.toInt64 4) &&& Int64.toUInt64 63)).toInt64) &&& (1085102592571150095 : Int64)) >>> (Int64.toUInt64 (Int32.toInt64 8) &&& Int64.toUInt64 63)).toInt64) >>> (Int64.toUInt64 (Int32.toInt64 16) &&& Int64.toUInt64 63)).toInt64) + (Int64.toUInt64 (((((((a1 - ((Int64.toUInt64 a1 >>> (Int64.toUInt64 (Int32.toInt64 1) &&& Int64.toUInt64 63)).toInt64 &&& (6148914691236517205 : Int64))) &&& (3689348814741910323 : Int64)) + ((Int64.toUInt64 (a1 - ((Int64.toUInt64 a1 >>> (Int64.toUInt64 (Int32.toInt64 1) &&& Int64.toUInt64 63)).toInt64 &&& (6148914691236517205 : Int64))) >>> (Int64.toUInt64 (Int32.toInt64 2) &&& Int64.toUInt64 63)).toInt64 &&& (3689348814741910323 : Int64))) + (Int64.toUInt64 (((a1 - ((Int64.toUInt64 a1 >>> (Int64.toUInt64 (Int32.toInt64 1) &&& Int64.toUInt64 63)).toInt64 &&& (6148914691236517205 : Int64))) &&& (3689348814741910323 : Int64)) + ((Int64.toUInt64 (a1 - ((Int64.toUInt64 a1 >>> (Int64.toUInt64 (Int32.toInt64 1) &&& Int64.toUInt64 63)).toInt64 &&& (6148914691236517205 : Int64))) >>> (Int64.toUInt64 (Int32.toInt64 2) &&& Int64.toUInt64 63)).toInt64 &&& (3689348814741910323 : Int64))) >>> (Int64.toUInt64 (Int32.toInt64 4) &&& Int64.toUInt64 63)).toInt64) &&& (1085102592571150095 : Int64)) + (Int64.toUInt64 (((((a1 - ((Int64.toUInt64 a1 >>> (Int64.toUInt64 (Int32.toInt64 1) &&& Int64.toUInt64 63)).toInt64 &&& (6148914691236517205 : Int64))) &&& (3689348814741910323 : Int64)) + ((Int64.toUInt64 (a1 - ((Int64.toUInt64 a1 >>> (Int64.toUInt64 (Int32.toInt64 1) &&& Int64.toUInt64 63)).toInt64 &&& (6148914691236517205 : Int64))) >>> (Int64.toUInt64 (Int32.toInt64 2) &&& Int64.toUInt64 63)).toInt64 &&& (3689348814741910323 : Int64))) + (Int64.toUInt64 (((a1 - ((Int64.toUInt64 a1 >>> (Int64.toUInt64 (Int32.toInt64 1) &&& Int64.toUInt64 63)).toInt64 &&& (6148914691236517205 : Int64))) &&& (3689348814741910323 : Int64)) + ((Int64.toUInt64 (a1 - ((Int64.toUInt64 a1 >>> (Int64.toUInt64 (Int32.toInt64 1) &&& Int64.toUInt64 63)).toInt64 &&& (6148914691236517205 : Int64))) >>> (Int64.toUInt64 (Int32.toInt64 2) &&& Int64.toUInt64 63)).toInt64 &&& (3689348814741910323 : Int64))) >>> (Int64.toUInt64 (Int32.toInt64 4) &&& Int64.toUInt64 63)).toInt64) &&& (1085102592571150095 : Int64)) >>> (Int64.toUInt64 (Int32.toInt64 8) &&& Int64.toUInt64 63)).toInt64) + (Int64.toUInt64 ((((((a1 - ((Int64.toUInt64 a1 >>> (Int64.toUInt64 (Int32.toInt64 1) &&& Int64.toUInt64 63)).toInt64 &&& (6148914691236517205 : Int64))) &&& (3689348814741910323 : Int64)) + ((Int64.toUInt64 (a1 - ((Int64.toUInt64 a1 >>> (Int64.toUInt64 (Int32.toInt64 1) &&& Int64.toUInt64 63)).toInt64 &&& (6148914691236517205 : Int64))) >>> (Int64.toUInt64 (Int32.toInt64 2) &&& Int64.toUInt64 63)).toInt64 &&& (3689348814741910323 : Int64))) + (Int64.toUInt64 (((a1 - ((Int64.toUInt64 a1 >>> (Int64.toUInt64 (Int32.toInt64 1) &&& Int64.toUInt64 63)).toInt64 &&& (6148914691236517205 : Int64))) &&& (3689348814741910323 : Int64)) + ((Int64.toUInt64 (a1 - ((Int64.toUInt64 a1 >>> (Int64.toUInt64 (Int32.toInt64 1) &&& Int64.toUInt64 63)).toInt64 &&& (6148914691236517205 : Int64))) >>> (Int64.toUInt64 (Int32.toInt64 2) &&& Int64.toUInt64 63)).toInt64 &&& (3689348814741910323 : Int64))) >>> (Int64.toUInt64 (Int32.toInt64 4) &&& Int64.toUInt64 63)).toInt64) &&& (1085102592571150095 : Int64)) + (Int64.toUInt64 (((((a1 - ((Int64.toUInt64 a1 >>> (Int64.toUInt64 (Int32.toInt64 1) &&& Int64.toUInt64 63)).toInt64 &&& (6148914691236517205 : Int64))) &&& (3689348814741910323 : Int64)) + ((Int64.toUInt64 (a1 - ((Int64.toUInt64 a1 >>> (Int64.toUInt64 (Int32.toInt64 1) &&& Int64.toUInt64 63)).toInt64 &&& (6148914691236517205 : Int64))) >>> (Int64.toUInt64 (Int32.toInt64 2) &&& Int64.toUInt64 63)).toInt64 &&& (3689348814741910323 : Int64))) + (Int64.toUInt64 (((a1 - ((Int64.toUInt64 a1 >>> (Int64.toUInt64 (Int32.toInt64 1) &&& Int64.toUInt64 63)).toInt64 &&& (6148914691236517205 : Int64))) &&& (3689348814741910323 : Int64)) + ((Int64.toUInt64 (a1 - ((Int64.toUInt64 a1 >>> (Int64.toUInt64 (Int32.toInt64 1) &&& Int64.toUInt64 63)).toInt64 &&& (6148914691236517205 : Int64))) >>> (Int64.toUInt64 (Int32.toInt64 2) &&& Int64.toUInt64 63)).toInt64 &&& (3689348814741910323 : Int64))) >>> (Int64.toUInt64 (Int32.toInt64 4) &&& Int64.toUInt64 63)).toInt64) &&& (1085102592571150095 : Int64)) >>> (Int64.toUInt64 (Int32.toInt64 8) &&& Int64.toUInt64 63)).toInt64) >>> (Int64.toUInt64 (Int32.toInt64 16) &&& Int64.toUInt64 63)).toInt64) >>> (Int64.toUInt64 (Int32.toInt64 32) &&& Int64.toUInt64 63)).toInt64)) &&& 127)
set_option maxRecDepth 100000 in
set_option maxHeartbeats 4000000 in
theorem m_J13_bitCount_95d88 {h : kH} {N : Nat} {a1 : Int64} : kMet kJ13_bitCount_95d88 false 0 0 [.long a1] h N (kRt (some (.int (f_J13_bitCount_95d88 a1))) h N) := by
  refine kMet.in (by decide) rfl rfl _ rfl ?_
  refine k_lload_n (i := 0) dJ13_bitCount_95d88_0 (rfl : 0 + 1 = 1) rfl rfl ?_
  refine k_lload_n (i := 0) dJ13_bitCount_95d88_1 (rfl : 1 + 1 = 2) rfl rfl ?_
  refine k_iconst (v := 1) dJ13_bitCount_95d88_2 (rfl : 2 + 1 = 3) (by decide) ?_
  refine k_lushr dJ13_bitCount_95d88_3 (rfl : 3 + 1 = 4) ?_
  refine k_ldc2 dJ13_bitCount_95d88_4 (rfl : 4 + 3 = 7) kc_J13_314 ?_
  refine k_land dJ13_bitCount_95d88_7 (rfl : 7 + 1 = 8) ?_
  refine k_lsub dJ13_bitCount_95d88_8 (rfl : 8 + 1 = 9) ?_
  refine k_lstore_n (i := 0) dJ13_bitCount_95d88_9 (rfl : 9 + 1 = 10) rfl (Nat.le_of_ble_eq_true rfl) ?_
  refine k_ls (ls2 := [.long (a1 - ((Int64.toUInt64 a1 >>> (Int64.toUInt64 (Int32.toInt64 1) &&& Int64.toUInt64 63)).toInt64 &&& (6148914691236517205 : Int64))), .retAddr 0]) rfl ?_
  refine k_lload_n (i := 0) dJ13_bitCount_95d88_10 (rfl : 10 + 1 = 11) rfl rfl ?_
  refine k_ldc2 dJ13_bitCount_95d88_11 (rfl : 11 + 3 = 14) kc_J13_316 ?_
  refine k_land dJ13_bitCount_95d88_14 (rfl : 14 + 1 = 15) ?_
  refine k_lload_n (i := 0) dJ13_bitCount_95d88_15 (rfl : 15 + 1 = 16) rfl rfl ?_
  refine k_iconst (v := 2) dJ13_bitCount_95d88_16 (rfl : 16 + 1 = 17) (by decide) ?_
  refine k_lushr dJ13_bitCount_95d88_17 (rfl : 17 + 1 = 18) ?_
  refine k_ldc2 dJ13_bitCount_95d88_18 (rfl : 18 + 3 = 21) kc_J13_316 ?_
  refine k_land dJ13_bitCount_95d88_21 (rfl : 21 + 1 = 22) ?_
  refine k_ladd dJ13_bitCount_95d88_22 (rfl : 22 + 1 = 23) ?_
  refine k_lstore_n (i := 0) dJ13_bitCount_95d88_23 (rfl : 23 + 1 = 24) rfl (Nat.le_of_ble_eq_true rfl) ?_
  refine k_ls (ls2 := [.long (((a1 - ((Int64.toUInt64 a1 >>> (Int64.toUInt64 (Int32.toInt64 1) &&& Int64.toUInt64 63)).toInt64 &&& (6148914691236517205 : Int64))) &&& (3689348814741910323 : Int64)) + ((Int64.toUInt64 (a1 - ((Int64.toUInt64 a1 >>> (Int64.toUInt64 (Int32.toInt64 1) &&& Int64.toUInt64 63)).toInt64 &&& (6148914691236517205 : Int64))) >>> (Int64.toUInt64 (Int32.toInt64 2) &&& Int64.toUInt64 63)).toInt64 &&& (3689348814741910323 : Int64))), .retAddr 0]) rfl ?_
  refine k_lload_n (i := 0) dJ13_bitCount_95d88_24 (rfl : 24 + 1 = 25) rfl rfl ?_
  refine k_lload_n (i := 0) dJ13_bitCount_95d88_25 (rfl : 25 + 1 = 26) rfl rfl ?_
  refine k_iconst (v := 4) dJ13_bitCount_95d88_26 (rfl : 26 + 1 = 27) (by decide) ?_
  refine k_lushr dJ13_bitCount_95d88_27 (rfl : 27 + 1 = 28) ?_
  refine k_ladd dJ13_bitCount_95d88_28 (rfl : 28 + 1 = 29) ?_
  refine k_ldc2 dJ13_bitCount_95d88_29 (rfl : 29 + 3 = 32) kc_J13_318 ?_
  refine k_land dJ13_bitCount_95d88_32 (rfl : 32 + 1 = 33) ?_
  refine k_lstore_n (i := 0) dJ13_bitCount_95d88_33 (rfl : 33 + 1 = 34) rfl (Nat.le_of_ble_eq_true rfl) ?_
  refine k_ls (ls2 := [.long (((((a1 - ((Int64.toUInt64 a1 >>> (Int64.toUInt64 (Int32.toInt64 1) &&& Int64.toUInt64 63)).toInt64 &&& (6148914691236517205 : Int64))) &&& (3689348814741910323 : Int64)) + ((Int64.toUInt64 (a1 - ((Int64.toUInt64 a1 >>> (Int64.toUInt64 (Int32.toInt64 1) &&& Int64.toUInt64 63)).toInt64 &&& (6148914691236517205 : Int64))) >>> (Int64.toUInt64 (Int32.toInt64 2) &&& Int64.toUInt64 63)).toInt64 &&& (3689348814741910323 : Int64))) + (Int64.toUInt64 (((a1 - ((Int64.toUInt64 a1 >>> (Int64.toUInt64 (Int32.toInt64 1) &&& Int64.toUInt64 63)).toInt64 &&& (6148914691236517205 : Int64))) &&& (3689348814741910323 : Int64)) + ((Int64.toUInt64 (a1 - ((Int64.toUInt64 a1 >>> (Int64.toUInt64 (Int32.toInt64 1) &&& Int64.toUInt64 63)).toInt64 &&& (6148914691236517205 : Int64))) >>> (Int64.toUInt64 (Int32.toInt64 2) &&& Int64.toUInt64 63)).toInt64 &&& (3689348814741910323 : Int64))) >>> (Int64.toUInt64 (Int32.toInt64 4) &&& Int64.toUInt64 63)).toInt64) &&& (1085102592571150095 : Int64)), .retAddr 0]) rfl ?_
  refine k_lload_n (i := 0) dJ13_bitCount_95d88_34 (rfl : 34 + 1 = 35) rfl rfl ?_
  refine k_lload_n (i := 0) dJ13_bitCount_95d88_35 (rfl : 35 + 1 = 36) rfl rfl ?_
  refine k_bipush (v := 8) dJ13_bitCount_95d88_36 (rfl : 36 + 2 = 38) (by decide) ?_
  refine k_lushr dJ13_bitCount_95d88_38 (rfl : 38 + 1 = 39) ?_
  refine k_ladd dJ13_bitCount_95d88_39 (rfl : 39 + 1 = 40) ?_
  refine k_lstore_n (i := 0) dJ13_bitCount_95d88_40 (rfl : 40 + 1 = 41) rfl (Nat.le_of_ble_eq_true rfl) ?_
  refine k_ls (ls2 := [.long ((((((a1 - ((Int64.toUInt64 a1 >>> (Int64.toUInt64 (Int32.toInt64 1) &&& Int64.toUInt64 63)).toInt64 &&& (6148914691236517205 : Int64))) &&& (3689348814741910323 : Int64)) + ((Int64.toUInt64 (a1 - ((Int64.toUInt64 a1 >>> (Int64.toUInt64 (Int32.toInt64 1) &&& Int64.toUInt64 63)).toInt64 &&& (6148914691236517205 : Int64))) >>> (Int64.toUInt64 (Int32.toInt64 2) &&& Int64.toUInt64 63)).toInt64 &&& (3689348814741910323 : Int64))) + (Int64.toUInt64 (((a1 - ((Int64.toUInt64 a1 >>> (Int64.toUInt64 (Int32.toInt64 1) &&& Int64.toUInt64 63)).toInt64 &&& (6148914691236517205 : Int64))) &&& (3689348814741910323 : Int64)) + ((Int64.toUInt64 (a1 - ((Int64.toUInt64 a1 >>> (Int64.toUInt64 (Int32.toInt64 1) &&& Int64.toUInt64 63)).toInt64 &&& (6148914691236517205 : Int64))) >>> (Int64.toUInt64 (Int32.toInt64 2) &&& Int64.toUInt64 63)).toInt64 &&& (3689348814741910323 : Int64))) >>> (Int64.toUInt64 (Int32.toInt64 4) &&& Int64.toUInt64 63)).toInt64) &&& (1085102592571150095 : Int64)) + (Int64.toUInt64 (((((a1 - ((Int64.toUInt64 a1 >>> (Int64.toUInt64 (Int32.toInt64 1) &&& Int64.toUInt64 63)).toInt64 &&& (6148914691236517205 : Int64))) &&& (3689348814741910323 : Int64)) + ((Int64.toUInt64 (a1 - ((Int64.toUInt64 a1 >>> (Int64.toUInt64 (Int32.toInt64 1) &&& Int64.toUInt64 63)).toInt64 &&& (6148914691236517205 : Int64))) >>> (Int64.toUInt64 (Int32.toInt64 2) &&& Int64.toUInt64 63)).toInt64 &&& (3689348814741910323 : Int64))) + (Int64.toUInt64 (((a1 - ((Int64.toUInt64 a1 >>> (Int64.toUInt64 (Int32.toInt64 1) &&& Int64.toUInt64 63)).toInt64 &&& (6148914691236517205 : Int64))) &&& (3689348814741910323 : Int64)) + ((Int64.toUInt64 (a1 - ((Int64.toUInt64 a1 >>> (Int64.toUInt64 (Int32.toInt64 1) &&& Int64.toUInt64 63)).toInt64 &&& (6148914691236517205 : Int64))) >>> (Int64.toUInt64 (Int32.toInt64 2) &&& Int64.toUInt64 63)).toInt64 &&& (3689348814741910323 : Int64))) >>> (Int64.toUInt64 (Int32.toInt64 4) &&& Int64.toUInt64 63)).toInt64) &&& (1085102592571150095 : Int64)) >>> (Int64.toUInt64 (Int32.toInt64 8) &&& Int64.toUInt64 63)).toInt64), .retAddr 0]) rfl ?_
  refine k_lload_n (i := 0) dJ13_bitCount_95d88_41 (rfl : 41 + 1 = 42) rfl rfl ?_
  refine k_lload_n (i := 0) dJ13_bitCount_95d88_42 (rfl : 42 + 1 = 43) rfl rfl ?_
  refine k_bipush (v := 16) dJ13_bitCount_95d88_43 (rfl : 43 + 2 = 45) (by decide) ?_
  refine k_lushr dJ13_bitCount_95d88_45 (rfl : 45 + 1 = 46) ?_
  refine k_ladd dJ13_bitCount_95d88_46 (rfl : 46 + 1 = 47) ?_
  refine k_lstore_n (i := 0) dJ13_bitCount_95d88_47 (rfl : 47 + 1 = 48) rfl (Nat.le_of_ble_eq_true rfl) ?_
  refine k_ls (ls2 := [.long (((((((a1 - ((Int64.toUInt64 a1 >>> (Int64.toUInt64 (Int32.toInt64 1) &&& Int64.toUInt64 63)).toInt64 &&& (6148914691236517205 : Int64))) &&& (3689348814741910323 : Int64)) + ((Int64.toUInt64 (a1 - ((Int64.toUInt64 a1 >>> (Int64.toUInt64 (Int32.toInt64 1) &&& Int64.toUInt64 63)).toInt64 &&& (6148914691236517205 : Int64))) >>> (Int64.toUInt64 (Int32.toInt64 2) &&& Int64.toUInt64 63)).toInt64 &&& (3689348814741910323 : Int64))) + (Int64.toUInt64 (((a1 - ((Int64.toUInt64 a1 >>> (Int64.toUInt64 (Int32.toInt64 1) &&& Int64.toUInt64 63)).toInt64 &&& (6148914691236517205 : Int64))) &&& (3689348814741910323 : Int64)) + ((Int64.toUInt64 (a1 - ((Int64.toUInt64 a1 >>> (Int64.toUInt64 (Int32.toInt64 1) &&& Int64.toUInt64 63)).toInt64 &&& (6148914691236517205 : Int64))) >>> (Int64.toUInt64 (Int32.toInt64 2) &&& Int64.toUInt64 63)).toInt64 &&& (3689348814741910323 : Int64))) >>> (Int64.toUInt64 (Int32.toInt64 4) &&& Int64.toUInt64 63)).toInt64) &&& (1085102592571150095 : Int64)) + (Int64.toUInt64 (((((a1 - ((Int64.toUInt64 a1 >>> (Int64.toUInt64 (Int32.toInt64 1) &&& Int64.toUInt64 63)).toInt64 &&& (6148914691236517205 : Int64))) &&& (3689348814741910323 : Int64)) + ((Int64.toUInt64 (a1 - ((Int64.toUInt64 a1 >>> (Int64.toUInt64 (Int32.toInt64 1) &&& Int64.toUInt64 63)).toInt64 &&& (6148914691236517205 : Int64))) >>> (Int64.toUInt64 (Int32.toInt64 2) &&& Int64.toUInt64 63)).toInt64 &&& (3689348814741910323 : Int64))) + (Int64.toUInt64 (((a1 - ((Int64.toUInt64 a1 >>> (Int64.toUInt64 (Int32.toInt64 1) &&& Int64.toUInt64 63)).toInt64 &&& (6148914691236517205 : Int64))) &&& (3689348814741910323 : Int64)) + ((Int64.toUInt64 (a1 - ((Int64.toUInt64 a1 >>> (Int64.toUInt64 (Int32.toInt64 1) &&& Int64.toUInt64 63)).toInt64 &&& (6148914691236517205 : Int64))) >>> (Int64.toUInt64 (Int32.toInt64 2) &&& Int64.toUInt64 63)).toInt64 &&& (3689348814741910323 : Int64))) >>> (Int64.toUInt64 (Int32.toInt64 4) &&& Int64.toUInt64 63)).toInt64) &&& (1085102592571150095 : Int64)) >>> (Int64.toUInt64 (Int32.toInt64 8) &&& Int64.toUInt64 63)).toInt64) + (Int64.toUInt64 ((((((a1 - ((Int64.toUInt64 a1 >>> (Int64.toUInt64 (Int32.toInt64 1) &&& Int64.toUInt64 63)).toInt64 &&& (6148914691236517205 : Int64))) &&& (3689348814741910323 : Int64)) + ((Int64.toUInt64 (a1 - ((Int64.toUInt64 a1 >>> (Int64.toUInt64 (Int32.toInt64 1) &&& Int64.toUInt64 63)).toInt64 &&& (6148914691236517205 : Int64))) >>> (Int64.toUInt64 (Int32.toInt64 2) &&& Int64.toUInt64 63)).toInt64 &&& (3689348814741910323 : Int64))) + (Int64.toUInt64 (((a1 - ((Int64.toUInt64 a1 >>> (Int64.toUInt64 (Int32.toInt64 1) &&& Int64.toUInt64 63)).toInt64 &&& (6148914691236517205 : Int64))) &&& (3689348814741910323 : Int64)) + ((Int64.toUInt64 (a1 - ((Int64.toUInt64 a1 >>> (Int64.toUInt64 (Int32.toInt64 1) &&& Int64.toUInt64 63)).toInt64 &&& (6148914691236517205 : Int64))) >>> (Int64.toUInt64 (Int32.toInt64 2) &&& Int64.toUInt64 63)).toInt64 &&& (3689348814741910323 : Int64))) >>> (Int64.toUInt64 (Int32.toInt64 4) &&& Int64.toUInt64 63)).toInt64) &&& (1085102592571150095 : Int64)) + (Int64.toUInt64 (((((a1 - ((Int64.toUInt64 a1 >>> (Int64.toUInt64 (Int32.toInt64 1) &&& Int64.toUInt64 63)).toInt64 &&& (6148914691236517205 : Int64))) &&& (3689348814741910323 : Int64)) + ((Int64.toUInt64 (a1 - ((Int64.toUInt64 a1 >>> (Int64.toUInt64 (Int32.toInt64 1) &&& Int64.toUInt64 63)).toInt64 &&& (6148914691236517205 : Int64))) >>> (Int64.toUInt64 (Int32.toInt64 2) &&& Int64.toUInt64 63)).toInt64 &&& (3689348814741910323 : Int64))) + (Int64.toUInt64 (((a1 - ((Int64.toUInt64 a1 >>> (Int64.toUInt64 (Int32.toInt64 1) &&& Int64.toUInt64 63)).toInt64 &&& (6148914691236517205 : Int64))) &&& (3689348814741910323 : Int64)) + ((Int64.toUInt64 (a1 - ((Int64.toUInt64 a1 >>> (Int64.toUInt64 (Int32.toInt64 1) &&& Int64.toUInt64 63)).toInt64 &&& (6148914691236517205 : Int64))) >>> (Int64.toUInt64 (Int32.toInt64 2) &&& Int64.toUInt64 63)).toInt64 &&& (3689348814741910323 : Int64))) >>> (Int64.toUInt64 (Int32.toInt64 4) &&& Int64.toUInt64 63)).toInt64) &&& (1085102592571150095 : Int64)) >>> (Int64.toUInt64 (Int32.toInt64 8) &&& Int64.toUInt64 63)).toInt64) >>> (Int64.toUInt64 (Int32.toInt64 16) &&& Int64.toUInt64 63)).toInt64), .retAddr 0]) rfl ?_
  refine k_lload_n (i := 0) dJ13_bitCount_95d88_48 (rfl : 48 + 1 = 49) rfl rfl ?_
  refine k_lload_n (i := 0) dJ13_bitCount_95d88_49 (rfl : 49 + 1 = 50) rfl rfl ?_
  refine k_bipush (v := 32) dJ13_bitCount_95d88_50 (rfl : 50 + 2 = 52) (by decide) ?_
  refine k_lushr dJ13_bitCount_95d88_52 (rfl : 52 + 1 = 53) ?_
  refine k_ladd dJ13_bitCount_95d88_53 (rfl : 53 + 1 = 54) ?_
  refine k_lstore_n (i := 0) dJ13_bitCount_95d88_54 (rfl : 54 + 1 = 55) rfl (Nat.le_of_ble_eq_true rfl) ?_
  refine k_ls (ls2 := [.long ((((((((a1 - ((Int64.toUInt64 a1 >>> (Int64.toUInt64 (Int32.toInt64 1) &&& Int64.toUInt64 63)).toInt64 &&& (6148914691236517205 : Int64))) &&& (3689348814741910323 : Int64)) + ((Int64.toUInt64 (a1 - ((Int64.toUInt64 a1 >>> (Int64.toUInt64 (Int32.toInt64 1) &&& Int64.toUInt64 63)).toInt64 &&& (6148914691236517205 : Int64))) >>> (Int64.toUInt64 (Int32.toInt64 2) &&& Int64.toUInt64 63)).toInt64 &&& (3689348814741910323 : Int64))) + (Int64.toUInt64 (((a1 - ((Int64.toUInt64 a1 >>> (Int64.toUInt64 (Int32.toInt64 1) &&& Int64.toUInt64 63)).toInt64 &&& (6148914691236517205 : Int64))) &&& (3689348814741910323 : Int64)) + ((Int64.toUInt64 (a1 - ((Int64.toUInt64 a1 >>> (Int64.toUInt64 (Int32.toInt64 1) &&& Int64.toUInt64 63)).toInt64 &&& (6148914691236517205 : Int64))) >>> (Int64.toUInt64 (Int32.toInt64 2) &&& Int64.toUInt64 63)).toInt64 &&& (3689348814741910323 : Int64))) >>> (Int64.toUInt64 (Int32.toInt64 4) &&& Int64.toUInt64 63)).toInt64) &&& (1085102592571150095 : Int64)) + (Int64.toUInt64 (((((a1 - ((Int64.toUInt64 a1 >>> (Int64.toUInt64 (Int32.toInt64 1) &&& Int64.toUInt64 63)).toInt64 &&& (6148914691236517205 : Int64))) &&& (3689348814741910323 : Int64)) + ((Int64.toUInt64 (a1 - ((Int64.toUInt64 a1 >>> (Int64.toUInt64 (Int32.toInt64 1) &&& Int64.toUInt64 63)).toInt64 &&& (6148914691236517205 : Int64))) >>> (Int64.toUInt64 (Int32.toInt64 2) &&& Int64.toUInt64 63)).toInt64 &&& (3689348814741910323 : Int64))) + (Int64.toUInt64 (((a1 - ((Int64.toUInt64 a1 >>> (Int64.toUInt64 (Int32.toInt64 1) &&& Int64.toUInt64 63)).toInt64 &&& (6148914691236517205 : Int64))) &&& (3689348814741910323 : Int64)) + ((Int64.toUInt64 (a1 - ((Int64.toUInt64 a1 >>> (Int64.toUInt64 (Int32.toInt64 1) &&& Int64.toUInt64 63)).toInt64 &&& (6148914691236517205 : Int64))) >>> (Int64.toUInt64 (Int32.toInt64 2) &&& Int64.toUInt64 63)).toInt64 &&& (3689348814741910323 : Int64))) >>> (Int64.toUInt64 (Int32.toInt64 4) &&& Int64.toUInt64 63)).toInt64) &&& (1085102592571150095 : Int64)) >>> (Int64.toUInt64 (Int32.toInt64 8) &&& Int64.toUInt64 63)).toInt64) + (Int64.toUInt64 ((((((a1 - ((Int64.toUInt64 a1 >>> (Int64.toUInt64 (Int32.toInt64 1) &&& Int64.toUInt64 63)).toInt64 &&& (6148914691236517205 : Int64))) &&& (3689348814741910323 : Int64)) + ((Int64.toUInt64 (a1 - ((Int64.toUInt64 a1 >>> (Int64.toUInt64 (Int32.toInt64 1) &&& Int64.toUInt64 63)).toInt64 &&& (6148914691236517205 : Int64))) >>> (Int64.toUInt64 (Int32.toInt64 2) &&& Int64.toUInt64 63)).toInt64 &&& (3689348814741910323 : Int64))) + (Int64.toUInt64 (((a1 - ((Int64.toUInt64 a1 >>> (Int64.toUInt64 (Int32.toInt64 1) &&& Int64.toUInt64 63)).toInt64 &&& (6148914691236517205 : Int64))) &&& (3689348814741910323 : Int64)) + ((Int64.toUInt64 (a1 - ((Int64.toUInt64 a1 >>> (Int64.toUInt64 (Int32.toInt64 1) &&& Int64.toUInt64 63)).toInt64 &&& (6148914691236517205 : Int64))) >>> (Int64.toUInt64 (Int32.toInt64 2) &&& Int64.toUInt64 63)).toInt64 &&& (3689348814741910323 : Int64))) >>> (Int64.toUInt64 (Int32.toInt64 4) &&& Int64.toUInt64 63)).toInt64) &&& (1085102592571150095 : Int64)) + (Int64.toUInt64 (((((a1 - ((Int64.toUInt64 a1 >>> (Int64.toUInt64 (Int32.toInt64 1) &&& Int64.toUInt64 63)).toInt64 &&& (6148914691236517205 : Int64))) &&& (3689348814741910323 : Int64)) + ((Int64.toUInt64 (a1 - ((Int64.toUInt64 a1 >>> (Int64.toUInt64 (Int32.toInt64 1) &&& Int64.toUInt64 63)).toInt64 &&& (6148914691236517205 : Int64))) >>> (Int64.toUInt64 (Int32.toInt64 2) &&& Int64.toUInt64 63)).toInt64 &&& (3689348814741910323 : Int64))) + (Int64.toUInt64 (((a1 - ((Int64.toUInt64 a1 >>> (Int64.toUInt64 (Int32.toInt64 1) &&& Int64.toUInt64 63)).toInt64 &&& (6148914691236517205 : Int64))) &&& (3689348814741910323 : Int64)) + ((Int64.toUInt64 (a1 - ((Int64.toUInt64 a1 >>> (Int64.toUInt64 (Int32.toInt64 1) &&& Int64.toUInt64 63)).toInt64 &&& (6148914691236517205 : Int64))) >>> (Int64.toUInt64 (Int32.toInt64 2) &&& Int64.toUInt64 63)).toInt64 &&& (3689348814741910323 : Int64))) >>> (Int64.toUInt64 (Int32.toInt64 4) &&& Int64.toUInt64 63)).toInt64) &&& (1085102592571150095 : Int64)) >>> (Int64.toUInt64 (Int32.toInt64 8) &&& Int64.toUInt64 63)).toInt64) >>> (Int64.toUInt64 (Int32.toInt64 16) &&& Int64.toUInt64 63)).toInt64) + (Int64.toUInt64 (((((((a1 - ((Int64.toUInt64 a1 >>> (Int64.toUInt64 (Int32.toInt64 1) &&& Int64.toUInt64 63)).toInt64 &&& (6148914691236517205 : Int64))) &&& (3689348814741910323 : Int64)) + ((Int64.toUInt64 (a1 - ((Int64.toUInt64 a1 >>> (Int64.toUInt64 (Int32.toInt64 1) &&& Int64.toUInt64 63)).toInt64 &&& (6148914691236517205 : Int64))) >>> (Int64.toUInt64 (Int32.toInt64 2) &&& Int64.toUInt64 63)).toInt64 &&& (3689348814741910323 : Int64))) + (Int64.toUInt64 (((a1 - ((Int64.toUInt64 a1 >>> (Int64.toUInt64 (Int32.toInt64 1) &&& Int64.toUInt64 63)).toInt64 &&& (6148914691236517205 : Int64))) &&& (3689348814741910323 : Int64)) + ((Int64.toUInt64 (a1 - ((Int64.toUInt64 a1 >>> (Int64.toUInt64 (Int32.toInt64 1) &&& Int64.toUInt64 63)).toInt64 &&& (6148914691236517205 : Int64))) >>> (Int64.toUInt64 (Int32.toInt64 2) &&& Int64.toUInt64 63)).toInt64 &&& (3689348814741910323 : Int64))) >>> (Int64.toUInt64 (Int32.toInt64 4) &&& Int64.toUInt64 63)).toInt64) &&& (1085102592571150095 : Int64)) + (Int64.toUInt64 (((((a1 - ((Int64.toUInt64 a1 >>> (Int64.toUInt64 (Int32.toInt64 1) &&& Int64.toUInt64 63)).toInt64 &&& (6148914691236517205 : Int64))) &&& (3689348814741910323 : Int64)) + ((Int64.toUInt64 (a1 - ((Int64.toUInt64 a1 >>> (Int64.toUInt64 (Int32.toInt64 1) &&& Int64.toUInt64 63)).toInt64 &&& (6148914691236517205 : Int64))) >>> (Int64.toUInt64 (Int32.toInt64 2) &&& Int64.toUInt64 63)).toInt64 &&& (3689348814741910323 : Int64))) + (Int64.toUInt64 (((a1 - ((Int64.toUInt64 a1 >>> (Int64.toUInt64 (Int32.toInt64 1) &&& Int64.toUInt64 63)).toInt64 &&& (6148914691236517205 : Int64))) &&& (3689348814741910323 : Int64)) + ((Int64.toUInt64 (a1 - ((Int64.toUInt64 a1 >>> (Int64.toUInt64 (Int32.toInt64 1) &&& Int64.toUInt64 63)).toInt64 &&& (6148914691236517205 : Int64))) >>> (Int64.toUInt64 (Int32.toInt64 2) &&& Int64.toUInt64 63)).toInt64 &&& (3689348814741910323 : Int64))) >>> (Int64.toUInt64 (Int32.toInt64 4) &&& Int64.toUInt64 63)).toInt64) &&& (1085102592571150095 : Int64)) >>> (Int64.toUInt64 (Int32.toInt64 8) &&& Int64.toUInt64 63)).toInt64) + (Int64.toUInt64 ((((((a1 - ((Int64.toUInt64 a1 >>> (Int64.toUInt64 (Int32.toInt64 1) &&& Int64.toUInt64 63)).toInt64 &&& (6148914691236517205 : Int64))) &&& (3689348814741910323 : Int64)) + ((Int64.toUInt64 (a1 - ((Int64.toUInt64 a1 >>> (Int64.toUInt64 (Int32.toInt64 1) &&& Int64.toUInt64 63)).toInt64 &&& (6148914691236517205 : Int64))) >>> (Int64.toUInt64 (Int32.toInt64 2) &&& Int64.toUInt64 63)).toInt64 &&& (3689348814741910323 : Int64))) + (Int64.toUInt64 (((a1 - ((Int64.toUInt64 a1 >>> (Int64.toUInt64 (Int32.toInt64 1) &&& Int64.toUInt64 63)).toInt64 &&& (6148914691236517205 : Int64))) &&& (3689348814741910323 : Int64)) + ((Int64.toUInt64 (a1 - ((Int64.toUInt64 a1 >>> (Int64.toUInt64 (Int32.toInt64 1) &&& Int64.toUInt64 63)).toInt64 &&& (6148914691236517205 : Int64))) >>> (Int64.toUInt64 (Int32.toInt64 2) &&& Int64.toUInt64 63)).toInt64 &&& (3689348814741910323 : Int64))) >>> (Int64.toUInt64 (Int32.toInt64 4) &&& Int64.toUInt64 63)).toInt64) &&& (1085102592571150095 : Int64)) + (Int64.toUInt64 (((((a1 - ((Int64.toUInt64 a1 >>> (Int64.toUInt64 (Int32.toInt64 1) &&& Int64.toUInt64 63)).toInt64 &&& (6148914691236517205 : Int64))) &&& (3689348814741910323 : Int64)) + ((Int64.toUInt64 (a1 - ((Int64.toUInt64 a1 >>> (Int64.toUInt64 (Int32.toInt64 1) &&& Int64.toUInt64 63)).toInt64 &&& (6148914691236517205 : Int64))) >>> (Int64.toUInt64 (Int32.toInt64 2) &&& Int64.toUInt64 63)).toInt64 &&& (3689348814741910323 : Int64))) + (Int64.toUInt64 (((a1 - ((Int64.toUInt64 a1 >>> (Int64.toUInt64 (Int32.toInt64 1) &&& Int64.toUInt64 63)).toInt64 &&& (6148914691236517205 : Int64))) &&& (3689348814741910323 : Int64)) + ((Int64.toUInt64 (a1 - ((Int64.toUInt64 a1 >>> (Int64.toUInt64 (Int32.toInt64 1) &&& Int64.toUInt64 63)).toInt64 &&& (6148914691236517205 : Int64))) >>> (Int64.toUInt64 (Int32.toInt64 2) &&& Int64.toUInt64 63)).toInt64 &&& (3689348814741910323 : Int64))) >>> (Int64.toUInt64 (Int32.toInt64 4) &&& Int64.toUInt64 63)).toInt64) &&& (1085102592571150095 : Int64)) >>> (Int64.toUInt64 (Int32.toInt64 8) &&& Int64.toUInt64 63)).toInt64) >>> (Int64.toUInt64 (Int32.toInt64 16) &&& Int64.toUInt64 63)).toInt64) >>> (Int64.toUInt64 (Int32.toInt64 32) &&& Int64.toUInt64 63)).toInt64), .retAddr 0]) rfl ?_
  refine k_lload_n (i := 0) dJ13_bitCount_95d88_55 (rfl : 55 + 1 = 56) rfl rfl ?_
  refine k_l2i dJ13_bitCount_95d88_56 (rfl : 56 + 1 = 57) ?_
  refine k_bipush (v := 127) dJ13_bitCount_95d88_57 (rfl : 57 + 2 = 59) (by decide) ?_
  refine k_iand dJ13_bitCount_95d88_59 (rfl : 59 + 1 = 60) ?_
  refine k_iret rfl rfl dJ13_bitCount_95d88_60 (Nat.le_of_ble_eq_true rfl) (Nat.le_of_ble_eq_true rfl) ?_
  exact kRt_of rfl rfl
def f_X11_refuseAnythingIn (x : kK) (a1 : Int32) : Int32 := if (f_X11_refuseTreeIn x a1) = 0 then (if (f_X11_refusePartyIn (g_X11_refuseTreeIn x a1) a1) = 0 then (f_X11_refuseBenchIn (g_X11_refusePartyIn (g_X11_refuseTreeIn x a1) a1) a1) else (f_X11_refusePartyIn (g_X11_refuseTreeIn x a1) a1)) else (if (f_X11_refuseTreeIn x a1) = 0 then (f_X11_refuseBenchIn (g_X11_refuseTreeIn x a1) a1) else (f_X11_refuseTreeIn x a1))
def g_X11_refuseAnythingIn (x : kK) (a1 : Int32) : kK := if (f_X11_refuseTreeIn x a1) = 0 then (if (f_X11_refusePartyIn (g_X11_refuseTreeIn x a1) a1) = 0 then (g_X11_refuseBenchIn (g_X11_refusePartyIn (g_X11_refuseTreeIn x a1) a1) a1) else (g_X11_refusePartyIn (g_X11_refuseTreeIn x a1) a1)) else (if (f_X11_refuseTreeIn x a1) = 0 then (g_X11_refuseBenchIn (g_X11_refuseTreeIn x a1) a1) else (g_X11_refuseTreeIn x a1))
set_option maxRecDepth 100000 in
set_option maxHeartbeats 4000000 in
theorem m_X11_refuseAnythingIn {x : kK} {r : kH} (iv : kIv (x.1 0)) {a1 : Int32} : kMet kX11_refuseAnythingIn false 0 0 [.ref 0, .int a1] (kTp (kHc x) r) 130 (kRt (some (.int (f_X11_refuseAnythingIn x a1))) (kTp (kHc (g_X11_refuseAnythingIn x a1)) r) 130) := by
  refine kMet.in (by decide) rfl rfl _ rfl ?_
  refine k_aload_n (i := 0) dX11_refuseAnythingIn_0 (rfl : 0 + 1 = 1) rfl rfl ?_
  refine k_iload_n (i := 1) dX11_refuseAnythingIn_1 (rfl : 1 + 1 = 2) rfl rfl ?_
  refine k_callVd1 cv_X11_450 ⟨Nat.le_of_ble_eq_true rfl, Nat.le_of_ble_eq_true rfl⟩ (m_X11_refuseTreeIn) dX11_refuseAnythingIn_2 (rfl : 2 + 3 = 5) (Nat.le_of_ble_eq_true rfl) rfl rfl rfl ⟨Nat.le_of_ble_eq_true rfl, Nat.le_of_ble_eq_true rfl⟩ ?_
  refine k_istore_n (i := 2) dX11_refuseAnythingIn_5 (rfl : 5 + 1 = 6) rfl (Nat.le_of_ble_eq_true rfl) ?_
  refine k_ls (ls2 := [.ref 0, .int a1, .int (f_X11_refuseTreeIn x a1)]) rfl ?_
  refine k_iload_n (i := 2) dX11_refuseAnythingIn_6 (rfl : 6 + 1 = 7) rfl rfl ?_
  refine k_if_ne (tgt := 16) dX11_refuseAnythingIn_7 (rfl : 7 + 3 = 10) (by decide) (fun b7 => ?_) (fun b7 => ?_)
  · refine k_iload_n (i := 2) dX11_refuseAnythingIn_16 (rfl : 16 + 1 = 17) rfl rfl ?_
    refine k_if_ne (tgt := 28) dX11_refuseAnythingIn_17 (rfl : 17 + 3 = 20) (by decide) (fun b17 => ?_) (fun b17 => ?_)
    · refine k_iload_n (i := 2) dX11_refuseAnythingIn_28 (rfl : 28 + 1 = 29) rfl rfl ?_
      refine k_iret rfl rfl dX11_refuseAnythingIn_29 (Nat.le_of_ble_eq_true rfl) (Nat.le_of_ble_eq_true rfl) ?_
      exact kRt_of (congrArg (fun z => some (Value.int z)) (Eq.symm (Eq.trans (if_neg (show ¬ ((f_X11_refuseTreeIn x a1) = 0) from b7)) (if_neg (show ¬ ((f_X11_refuseTreeIn x a1) = 0) from b17))))) (congrArg (fun z => kTp (kHc z) r) (Eq.symm (Eq.trans (if_neg (show ¬ ((f_X11_refuseTreeIn x a1) = 0) from b7)) (if_neg (show ¬ ((f_X11_refuseTreeIn x a1) = 0) from b17)))))
    · refine k_aload_n (i := 0) dX11_refuseAnythingIn_20 (rfl : 20 + 1 = 21) rfl rfl ?_
      refine k_iload_n (i := 1) dX11_refuseAnythingIn_21 (rfl : 21 + 1 = 22) rfl rfl ?_
      refine k_callVd1 cv_X11_456 ⟨Nat.le_of_ble_eq_true rfl, Nat.le_of_ble_eq_true rfl⟩ (m_X11_refuseBenchIn) dX11_refuseAnythingIn_22 (rfl : 22 + 3 = 25) (Nat.le_of_ble_eq_true rfl) rfl rfl rfl ⟨Nat.le_of_ble_eq_true rfl, Nat.le_of_ble_eq_true rfl⟩ ?_
      refine k_goto (tgt := 29) dX11_refuseAnythingIn_25 (by decide) ?_
      refine k_iret rfl rfl dX11_refuseAnythingIn_29 (Nat.le_of_ble_eq_true rfl) (Nat.le_of_ble_eq_true rfl) ?_
      exact kRt_of (congrArg (fun z => some (Value.int z)) (Eq.symm (Eq.trans (if_neg (show ¬ ((f_X11_refuseTreeIn x a1) = 0) from b7)) (if_pos (show (f_X11_refuseTreeIn x a1) = 0 from b17))))) (congrArg (fun z => kTp (kHc z) r) (Eq.symm (Eq.trans (if_neg (show ¬ ((f_X11_refuseTreeIn x a1) = 0) from b7)) (if_pos (show (f_X11_refuseTreeIn x a1) = 0 from b17)))))
  · refine k_aload_n (i := 0) dX11_refuseAnythingIn_10 (rfl : 10 + 1 = 11) rfl rfl ?_
    refine k_iload_n (i := 1) dX11_refuseAnythingIn_11 (rfl : 11 + 1 = 12) rfl rfl ?_
    refine k_callVd1 cv_X11_453 ⟨Nat.le_of_ble_eq_true rfl, Nat.le_of_ble_eq_true rfl⟩ (m_X11_refusePartyIn (by rw [gc_refuseTreeIn]; exact iv)) dX11_refuseAnythingIn_12 (rfl : 12 + 3 = 15) (Nat.le_of_ble_eq_true rfl) rfl rfl rfl ⟨Nat.le_of_ble_eq_true rfl, Nat.le_of_ble_eq_true rfl⟩ ?_
    refine k_istore_n (i := 2) dX11_refuseAnythingIn_15 (rfl : 15 + 1 = 16) rfl (Nat.le_of_ble_eq_true rfl) ?_
    refine k_ls (ls2 := [.ref 0, .int a1, .int (f_X11_refusePartyIn (g_X11_refuseTreeIn x a1) a1)]) rfl ?_
    refine k_iload_n (i := 2) dX11_refuseAnythingIn_16 (rfl : 16 + 1 = 17) rfl rfl ?_
    refine k_if_ne (tgt := 28) dX11_refuseAnythingIn_17 (rfl : 17 + 3 = 20) (by decide) (fun b17 => ?_) (fun b17 => ?_)
    · refine k_iload_n (i := 2) dX11_refuseAnythingIn_28 (rfl : 28 + 1 = 29) rfl rfl ?_
      refine k_iret rfl rfl dX11_refuseAnythingIn_29 (Nat.le_of_ble_eq_true rfl) (Nat.le_of_ble_eq_true rfl) ?_
      exact kRt_of (congrArg (fun z => some (Value.int z)) (Eq.symm (Eq.trans (if_pos (show (f_X11_refuseTreeIn x a1) = 0 from b7)) (if_neg (show ¬ ((f_X11_refusePartyIn (g_X11_refuseTreeIn x a1) a1) = 0) from b17))))) (congrArg (fun z => kTp (kHc z) r) (Eq.symm (Eq.trans (if_pos (show (f_X11_refuseTreeIn x a1) = 0 from b7)) (if_neg (show ¬ ((f_X11_refusePartyIn (g_X11_refuseTreeIn x a1) a1) = 0) from b17)))))
    · refine k_aload_n (i := 0) dX11_refuseAnythingIn_20 (rfl : 20 + 1 = 21) rfl rfl ?_
      refine k_iload_n (i := 1) dX11_refuseAnythingIn_21 (rfl : 21 + 1 = 22) rfl rfl ?_
      refine k_callVd1 cv_X11_456 ⟨Nat.le_of_ble_eq_true rfl, Nat.le_of_ble_eq_true rfl⟩ (m_X11_refuseBenchIn) dX11_refuseAnythingIn_22 (rfl : 22 + 3 = 25) (Nat.le_of_ble_eq_true rfl) rfl rfl rfl ⟨Nat.le_of_ble_eq_true rfl, Nat.le_of_ble_eq_true rfl⟩ ?_
      refine k_goto (tgt := 29) dX11_refuseAnythingIn_25 (by decide) ?_
      refine k_iret rfl rfl dX11_refuseAnythingIn_29 (Nat.le_of_ble_eq_true rfl) (Nat.le_of_ble_eq_true rfl) ?_
      exact kRt_of (congrArg (fun z => some (Value.int z)) (Eq.symm (Eq.trans (if_pos (show (f_X11_refuseTreeIn x a1) = 0 from b7)) (if_pos (show (f_X11_refusePartyIn (g_X11_refuseTreeIn x a1) a1) = 0 from b17))))) (congrArg (fun z => kTp (kHc z) r) (Eq.symm (Eq.trans (if_pos (show (f_X11_refuseTreeIn x a1) = 0 from b7)) (if_pos (show (f_X11_refusePartyIn (g_X11_refuseTreeIn x a1) a1) = 0 from b17)))))
theorem gc_refuseAnythingIn {x : kK} {a : Int32} : (g_X11_refuseAnythingIn x a).1 = x.1 := by
  unfold g_X11_refuseAnythingIn
  repeat' split
  all_goals simp only [gc_refuseTreeIn, gc_refusePartyIn, gc_refuseBenchIn]
def f_X11_checkTree (x : kK) (a1 : Int32) (a2 : Int32) (a3 : Int32) : Int32 := if (f_X11_isCell a1 a2) = 0 then 1 else (if a3 = 0 then 0 else (if (f_X11_refusePartyIn x (f_X11_cellAt a1 a2)) = 0 then (f_X11_refuseBenchIn (g_X11_refusePartyIn x (f_X11_cellAt a1 a2)) (f_X11_cellAt a1 a2)) else (f_X11_refusePartyIn x (f_X11_cellAt a1 a2))))
def g_X11_checkTree (x : kK) (a1 : Int32) (a2 : Int32) (a3 : Int32) : kK := if (f_X11_isCell a1 a2) = 0 then x else (if a3 = 0 then x else (if (f_X11_refusePartyIn x (f_X11_cellAt a1 a2)) = 0 then (g_X11_refuseBenchIn (g_X11_refusePartyIn x (f_X11_cellAt a1 a2)) (f_X11_cellAt a1 a2)) else (g_X11_refusePartyIn x (f_X11_cellAt a1 a2))))
set_option maxRecDepth 100000 in
set_option maxHeartbeats 4000000 in
theorem m_X11_checkTree {x : kK} {r : kH} (iv : kIv (x.1 0)) {a1 : Int32} {a2 : Int32} {a3 : Int32} : kMet kX11_checkTree false 0 0 [.ref 0, .int a1, .int a2, .int a3] (kTp (kHc x) r) 130 (kRt (some (.int (f_X11_checkTree x a1 a2 a3))) (kTp (kHc (g_X11_checkTree x a1 a2 a3)) r) 130) := by
  refine kMet.in (by decide) rfl rfl _ rfl ?_
  refine k_iload_n (i := 1) dX11_checkTree_0 (rfl : 0 + 1 = 1) rfl rfl ?_
  refine k_iload_n (i := 2) dX11_checkTree_1 (rfl : 1 + 1 = 2) rfl rfl ?_
  refine k_callSd2 cv_X11_117 ⟨Nat.le_of_ble_eq_true rfl, Nat.le_of_ble_eq_true rfl⟩ (m_X11_isCell) dX11_checkTree_2 (rfl : 2 + 3 = 5) rfl ⟨Nat.le_of_ble_eq_true rfl, Nat.le_of_ble_eq_true rfl⟩ ?_
  refine k_if_ne (tgt := 10) dX11_checkTree_5 (rfl : 5 + 3 = 8) (by decide) (fun b5 => ?_) (fun b5 => ?_)
  · refine k_iload_n (i := 3) dX11_checkTree_10 (rfl : 10 + 1 = 11) rfl rfl ?_
    refine k_if_ne (tgt := 16) dX11_checkTree_11 (rfl : 11 + 3 = 14) (by decide) (fun b11 => ?_) (fun b11 => ?_)
    · refine k_aload_n (i := 0) dX11_checkTree_16 (rfl : 16 + 1 = 17) rfl rfl ?_
      refine k_iload_n (i := 1) dX11_checkTree_17 (rfl : 17 + 1 = 18) rfl rfl ?_
      refine k_iload_n (i := 2) dX11_checkTree_18 (rfl : 18 + 1 = 19) rfl rfl ?_
      refine k_callSd2 cv_X11_121 ⟨Nat.le_of_ble_eq_true rfl, Nat.le_of_ble_eq_true rfl⟩ (m_X11_cellAt) dX11_checkTree_19 (rfl : 19 + 3 = 22) rfl ⟨Nat.le_of_ble_eq_true rfl, Nat.le_of_ble_eq_true rfl⟩ ?_
      refine k_callVd1 cv_X11_453 ⟨Nat.le_of_ble_eq_true rfl, Nat.le_of_ble_eq_true rfl⟩ (m_X11_refusePartyIn iv) dX11_checkTree_22 (rfl : 22 + 3 = 25) (Nat.le_of_ble_eq_true rfl) rfl rfl rfl ⟨Nat.le_of_ble_eq_true rfl, Nat.le_of_ble_eq_true rfl⟩ ?_
      refine k_istore (i := 4) dX11_checkTree_25 (rfl : 25 + 2 = 27) (Nat.le_of_ble_eq_true rfl) ?_
      refine k_ls (ls2 := [.ref 0, .int a1, .int a2, .int a3, .int (f_X11_refusePartyIn x (f_X11_cellAt a1 a2))]) rfl ?_
      refine k_iload (i := 4) dX11_checkTree_27 (rfl : 27 + 2 = 29) rfl ?_
      refine k_if_ne (tgt := 44) dX11_checkTree_29 (rfl : 29 + 3 = 32) (by decide) (fun b29 => ?_) (fun b29 => ?_)
      · refine k_iload (i := 4) dX11_checkTree_44 (rfl : 44 + 2 = 46) rfl ?_
        refine k_iret rfl rfl dX11_checkTree_46 (Nat.le_of_ble_eq_true rfl) (Nat.le_of_ble_eq_true rfl) ?_
        exact kRt_of (congrArg (fun z => some (Value.int z)) (Eq.symm (Eq.trans (if_neg (show ¬ ((f_X11_isCell a1 a2) = 0) from b5)) (Eq.trans (if_neg (show ¬ (a3 = 0) from b11)) (if_neg (show ¬ ((f_X11_refusePartyIn x (f_X11_cellAt a1 a2)) = 0) from b29)))))) (congrArg (fun z => kTp (kHc z) r) (Eq.symm (Eq.trans (if_neg (show ¬ ((f_X11_isCell a1 a2) = 0) from b5)) (Eq.trans (if_neg (show ¬ (a3 = 0) from b11)) (if_neg (show ¬ ((f_X11_refusePartyIn x (f_X11_cellAt a1 a2)) = 0) from b29))))))
      · refine k_aload_n (i := 0) dX11_checkTree_32 (rfl : 32 + 1 = 33) rfl rfl ?_
        refine k_iload_n (i := 1) dX11_checkTree_33 (rfl : 33 + 1 = 34) rfl rfl ?_
        refine k_iload_n (i := 2) dX11_checkTree_34 (rfl : 34 + 1 = 35) rfl rfl ?_
        refine k_callSd2 cv_X11_121 ⟨Nat.le_of_ble_eq_true rfl, Nat.le_of_ble_eq_true rfl⟩ (m_X11_cellAt) dX11_checkTree_35 (rfl : 35 + 3 = 38) rfl ⟨Nat.le_of_ble_eq_true rfl, Nat.le_of_ble_eq_true rfl⟩ ?_
        refine k_callVd1 cv_X11_456 ⟨Nat.le_of_ble_eq_true rfl, Nat.le_of_ble_eq_true rfl⟩ (m_X11_refuseBenchIn) dX11_checkTree_38 (rfl : 38 + 3 = 41) (Nat.le_of_ble_eq_true rfl) rfl rfl rfl ⟨Nat.le_of_ble_eq_true rfl, Nat.le_of_ble_eq_true rfl⟩ ?_
        refine k_goto (tgt := 46) dX11_checkTree_41 (by decide) ?_
        refine k_iret rfl rfl dX11_checkTree_46 (Nat.le_of_ble_eq_true rfl) (Nat.le_of_ble_eq_true rfl) ?_
        exact kRt_of (congrArg (fun z => some (Value.int z)) (Eq.symm (Eq.trans (if_neg (show ¬ ((f_X11_isCell a1 a2) = 0) from b5)) (Eq.trans (if_neg (show ¬ (a3 = 0) from b11)) (if_pos (show (f_X11_refusePartyIn x (f_X11_cellAt a1 a2)) = 0 from b29)))))) (congrArg (fun z => kTp (kHc z) r) (Eq.symm (Eq.trans (if_neg (show ¬ ((f_X11_isCell a1 a2) = 0) from b5)) (Eq.trans (if_neg (show ¬ (a3 = 0) from b11)) (if_pos (show (f_X11_refusePartyIn x (f_X11_cellAt a1 a2)) = 0 from b29))))))
    · refine k_iconst (v := 0) dX11_checkTree_14 (rfl : 14 + 1 = 15) (by decide) ?_
      refine k_iret rfl rfl dX11_checkTree_15 (Nat.le_of_ble_eq_true rfl) (Nat.le_of_ble_eq_true rfl) ?_
      exact kRt_of (congrArg (fun z => some (Value.int z)) (Eq.symm (Eq.trans (if_neg (show ¬ ((f_X11_isCell a1 a2) = 0) from b5)) (if_pos (show a3 = 0 from b11))))) (congrArg (fun z => kTp (kHc z) r) (Eq.symm (Eq.trans (if_neg (show ¬ ((f_X11_isCell a1 a2) = 0) from b5)) (if_pos (show a3 = 0 from b11)))))
  · refine k_iconst (v := 1) dX11_checkTree_8 (rfl : 8 + 1 = 9) (by decide) ?_
    refine k_iret rfl rfl dX11_checkTree_9 (Nat.le_of_ble_eq_true rfl) (Nat.le_of_ble_eq_true rfl) ?_
    exact kRt_of (congrArg (fun z => some (Value.int z)) (Eq.symm (if_pos (show (f_X11_isCell a1 a2) = 0 from b5)))) (congrArg (fun z => kTp (kHc z) r) (Eq.symm (if_pos (show (f_X11_isCell a1 a2) = 0 from b5))))
def f_X11_checkBench (x : kK) (a1 : Int32) (a2 : Int32) : Int32 := if (f_X11_isCell a1 a2) = 0 then 1 else (if (f_X11_refuseTreeIn x (f_X11_cellAt a1 a2)) = 0 then (f_X11_refusePartyIn (g_X11_refuseTreeIn x (f_X11_cellAt a1 a2)) (f_X11_cellAt a1 a2)) else (f_X11_refuseTreeIn x (f_X11_cellAt a1 a2)))
def g_X11_checkBench (x : kK) (a1 : Int32) (a2 : Int32) : kK := if (f_X11_isCell a1 a2) = 0 then x else (if (f_X11_refuseTreeIn x (f_X11_cellAt a1 a2)) = 0 then (g_X11_refusePartyIn (g_X11_refuseTreeIn x (f_X11_cellAt a1 a2)) (f_X11_cellAt a1 a2)) else (g_X11_refuseTreeIn x (f_X11_cellAt a1 a2)))
set_option maxRecDepth 100000 in
set_option maxHeartbeats 4000000 in
theorem m_X11_checkBench {x : kK} {r : kH} (iv : kIv (x.1 0)) {a1 : Int32} {a2 : Int32} : kMet kX11_checkBench false 0 0 [.ref 0, .int a1, .int a2] (kTp (kHc x) r) 130 (kRt (some (.int (f_X11_checkBench x a1 a2))) (kTp (kHc (g_X11_checkBench x a1 a2)) r) 130) := by
  refine kMet.in (by decide) rfl rfl _ rfl ?_
  refine k_iload_n (i := 1) dX11_checkBench_0 (rfl : 0 + 1 = 1) rfl rfl ?_
  refine k_iload_n (i := 2) dX11_checkBench_1 (rfl : 1 + 1 = 2) rfl rfl ?_
  refine k_callSd2 cv_X11_117 ⟨Nat.le_of_ble_eq_true rfl, Nat.le_of_ble_eq_true rfl⟩ (m_X11_isCell) dX11_checkBench_2 (rfl : 2 + 3 = 5) rfl ⟨Nat.le_of_ble_eq_true rfl, Nat.le_of_ble_eq_true rfl⟩ ?_
  refine k_if_ne (tgt := 10) dX11_checkBench_5 (rfl : 5 + 3 = 8) (by decide) (fun b5 => ?_) (fun b5 => ?_)
  · refine k_aload_n (i := 0) dX11_checkBench_10 (rfl : 10 + 1 = 11) rfl rfl ?_
    refine k_iload_n (i := 1) dX11_checkBench_11 (rfl : 11 + 1 = 12) rfl rfl ?_
    refine k_iload_n (i := 2) dX11_checkBench_12 (rfl : 12 + 1 = 13) rfl rfl ?_
    refine k_callSd2 cv_X11_121 ⟨Nat.le_of_ble_eq_true rfl, Nat.le_of_ble_eq_true rfl⟩ (m_X11_cellAt) dX11_checkBench_13 (rfl : 13 + 3 = 16) rfl ⟨Nat.le_of_ble_eq_true rfl, Nat.le_of_ble_eq_true rfl⟩ ?_
    refine k_callVd1 cv_X11_450 ⟨Nat.le_of_ble_eq_true rfl, Nat.le_of_ble_eq_true rfl⟩ (m_X11_refuseTreeIn) dX11_checkBench_16 (rfl : 16 + 3 = 19) (Nat.le_of_ble_eq_true rfl) rfl rfl rfl ⟨Nat.le_of_ble_eq_true rfl, Nat.le_of_ble_eq_true rfl⟩ ?_
    refine k_istore_n (i := 3) dX11_checkBench_19 (rfl : 19 + 1 = 20) rfl (Nat.le_of_ble_eq_true rfl) ?_
    refine k_ls (ls2 := [.ref 0, .int a1, .int a2, .int (f_X11_refuseTreeIn x (f_X11_cellAt a1 a2))]) rfl ?_
    refine k_iload_n (i := 3) dX11_checkBench_20 (rfl : 20 + 1 = 21) rfl rfl ?_
    refine k_if_ne (tgt := 36) dX11_checkBench_21 (rfl : 21 + 3 = 24) (by decide) (fun b21 => ?_) (fun b21 => ?_)
    · refine k_iload_n (i := 3) dX11_checkBench_36 (rfl : 36 + 1 = 37) rfl rfl ?_
      refine k_iret rfl rfl dX11_checkBench_37 (Nat.le_of_ble_eq_true rfl) (Nat.le_of_ble_eq_true rfl) ?_
      exact kRt_of (congrArg (fun z => some (Value.int z)) (Eq.symm (Eq.trans (if_neg (show ¬ ((f_X11_isCell a1 a2) = 0) from b5)) (if_neg (show ¬ ((f_X11_refuseTreeIn x (f_X11_cellAt a1 a2)) = 0) from b21))))) (congrArg (fun z => kTp (kHc z) r) (Eq.symm (Eq.trans (if_neg (show ¬ ((f_X11_isCell a1 a2) = 0) from b5)) (if_neg (show ¬ ((f_X11_refuseTreeIn x (f_X11_cellAt a1 a2)) = 0) from b21)))))
    · refine k_aload_n (i := 0) dX11_checkBench_24 (rfl : 24 + 1 = 25) rfl rfl ?_
      refine k_iload_n (i := 1) dX11_checkBench_25 (rfl : 25 + 1 = 26) rfl rfl ?_
      refine k_iload_n (i := 2) dX11_checkBench_26 (rfl : 26 + 1 = 27) rfl rfl ?_
      refine k_callSd2 cv_X11_121 ⟨Nat.le_of_ble_eq_true rfl, Nat.le_of_ble_eq_true rfl⟩ (m_X11_cellAt) dX11_checkBench_27 (rfl : 27 + 3 = 30) rfl ⟨Nat.le_of_ble_eq_true rfl, Nat.le_of_ble_eq_true rfl⟩ ?_
      refine k_callVd1 cv_X11_453 ⟨Nat.le_of_ble_eq_true rfl, Nat.le_of_ble_eq_true rfl⟩ (m_X11_refusePartyIn (by rw [gc_refuseTreeIn]; exact iv)) dX11_checkBench_30 (rfl : 30 + 3 = 33) (Nat.le_of_ble_eq_true rfl) rfl rfl rfl ⟨Nat.le_of_ble_eq_true rfl, Nat.le_of_ble_eq_true rfl⟩ ?_
      refine k_goto (tgt := 37) dX11_checkBench_33 (by decide) ?_
      refine k_iret rfl rfl dX11_checkBench_37 (Nat.le_of_ble_eq_true rfl) (Nat.le_of_ble_eq_true rfl) ?_
      exact kRt_of (congrArg (fun z => some (Value.int z)) (Eq.symm (Eq.trans (if_neg (show ¬ ((f_X11_isCell a1 a2) = 0) from b5)) (if_pos (show (f_X11_refuseTreeIn x (f_X11_cellAt a1 a2)) = 0 from b21))))) (congrArg (fun z => kTp (kHc z) r) (Eq.symm (Eq.trans (if_neg (show ¬ ((f_X11_isCell a1 a2) = 0) from b5)) (if_pos (show (f_X11_refuseTreeIn x (f_X11_cellAt a1 a2)) = 0 from b21)))))
  · refine k_iconst (v := 1) dX11_checkBench_8 (rfl : 8 + 1 = 9) (by decide) ?_
    refine k_iret rfl rfl dX11_checkBench_9 (Nat.le_of_ble_eq_true rfl) (Nat.le_of_ble_eq_true rfl) ?_
    exact kRt_of (congrArg (fun z => some (Value.int z)) (Eq.symm (if_pos (show (f_X11_isCell a1 a2) = 0 from b5)))) (congrArg (fun z => kTp (kHc z) r) (Eq.symm (if_pos (show (f_X11_isCell a1 a2) = 0 from b5))))
def f_X11_checkWind (a1 : Int32) (a2 : Int32) : Int32 := if a1 < 0 then (if a2 < 0 then 2 else (if 3 < a2 then 2 else 2)) else (if 8 ≤ a1 then (if a2 < 0 then 2 else (if 3 < a2 then 2 else 2)) else (if a2 < 0 then 2 else (if 3 < a2 then 2 else 0)))
set_option maxRecDepth 100000 in
set_option maxHeartbeats 4000000 in
theorem m_X11_checkWind {h : kH} {N : Nat} {a1 : Int32} {a2 : Int32} : kMet kX11_checkWind false 0 0 [.ref 0, .int a1, .int a2] h N (kRt (some (.int (f_X11_checkWind a1 a2))) h N) := by
  refine kMet.in (by decide) rfl rfl _ rfl ?_
  refine k_iload_n (i := 1) dX11_checkWind_0 (rfl : 0 + 1 = 1) rfl rfl ?_
  refine k_if_lt (tgt := 14) dX11_checkWind_1 (rfl : 1 + 3 = 4) (by decide) (fun b1 => ?_) (fun b1 => ?_)
  · refine k_iconst (v := 0) dX11_checkWind_14 (rfl : 14 + 1 = 15) (by decide) ?_
    refine k_istore_n (i := 3) dX11_checkWind_15 (rfl : 15 + 1 = 16) rfl (Nat.le_of_ble_eq_true rfl) ?_
    refine k_ls (ls2 := [.ref 0, .int a1, .int a2, .int 0, .retAddr 0]) rfl ?_
    refine k_iload_n (i := 2) dX11_checkWind_16 (rfl : 16 + 1 = 17) rfl rfl ?_
    refine k_if_lt (tgt := 29) dX11_checkWind_17 (rfl : 17 + 3 = 20) (by decide) (fun b17 => ?_) (fun b17 => ?_)
    · refine k_iconst (v := 0) dX11_checkWind_29 (rfl : 29 + 1 = 30) (by decide) ?_
      refine k_istore (i := 4) dX11_checkWind_30 (rfl : 30 + 2 = 32) (Nat.le_of_ble_eq_true rfl) ?_
      refine k_ls (ls2 := [.ref 0, .int a1, .int a2, .int 0, .int 0]) rfl ?_
      refine k_iload_n (i := 3) dX11_checkWind_32 (rfl : 32 + 1 = 33) rfl rfl ?_
      refine k_if_eq (tgt := 45) dX11_checkWind_33 (rfl : 33 + 3 = 36) (by decide) (fun b33 => ?_) (fun b33 => by exact absurd (by decide) b33)
      refine k_iconst (v := 2) dX11_checkWind_45 (rfl : 45 + 1 = 46) (by decide) ?_
      refine k_iret rfl rfl dX11_checkWind_46 (Nat.le_of_ble_eq_true rfl) (Nat.le_of_ble_eq_true rfl) ?_
      exact kRt_of (congrArg (fun z => some (Value.int z)) (Eq.symm (Eq.trans (if_pos (show a1 < 0 from b1)) (if_pos (show a2 < 0 from b17))))) rfl
    · refine k_iload_n (i := 2) dX11_checkWind_20 (rfl : 20 + 1 = 21) rfl rfl ?_
      refine k_iconst (v := 3) dX11_checkWind_21 (rfl : 21 + 1 = 22) (by decide) ?_
      refine k_icmp_gt (tgt := 29) dX11_checkWind_22 (rfl : 22 + 3 = 25) (by decide) (fun b22 => ?_) (fun b22 => ?_)
      · refine k_iconst (v := 0) dX11_checkWind_29 (rfl : 29 + 1 = 30) (by decide) ?_
        refine k_istore (i := 4) dX11_checkWind_30 (rfl : 30 + 2 = 32) (Nat.le_of_ble_eq_true rfl) ?_
        refine k_ls (ls2 := [.ref 0, .int a1, .int a2, .int 0, .int 0]) rfl ?_
        refine k_iload_n (i := 3) dX11_checkWind_32 (rfl : 32 + 1 = 33) rfl rfl ?_
        refine k_if_eq (tgt := 45) dX11_checkWind_33 (rfl : 33 + 3 = 36) (by decide) (fun b33 => ?_) (fun b33 => by exact absurd (by decide) b33)
        refine k_iconst (v := 2) dX11_checkWind_45 (rfl : 45 + 1 = 46) (by decide) ?_
        refine k_iret rfl rfl dX11_checkWind_46 (Nat.le_of_ble_eq_true rfl) (Nat.le_of_ble_eq_true rfl) ?_
        exact kRt_of (congrArg (fun z => some (Value.int z)) (Eq.symm (Eq.trans (if_pos (show a1 < 0 from b1)) (Eq.trans (if_neg (show ¬ (a2 < 0) from b17)) (if_pos (show 3 < a2 from b22)))))) rfl
      · refine k_iconst (v := 1) dX11_checkWind_25 (rfl : 25 + 1 = 26) (by decide) ?_
        refine k_goto (tgt := 30) dX11_checkWind_26 (by decide) ?_
        refine k_istore (i := 4) dX11_checkWind_30 (rfl : 30 + 2 = 32) (Nat.le_of_ble_eq_true rfl) ?_
        refine k_ls (ls2 := [.ref 0, .int a1, .int a2, .int 0, .int 1]) rfl ?_
        refine k_iload_n (i := 3) dX11_checkWind_32 (rfl : 32 + 1 = 33) rfl rfl ?_
        refine k_if_eq (tgt := 45) dX11_checkWind_33 (rfl : 33 + 3 = 36) (by decide) (fun b33 => ?_) (fun b33 => by exact absurd (by decide) b33)
        refine k_iconst (v := 2) dX11_checkWind_45 (rfl : 45 + 1 = 46) (by decide) ?_
        refine k_iret rfl rfl dX11_checkWind_46 (Nat.le_of_ble_eq_true rfl) (Nat.le_of_ble_eq_true rfl) ?_
        exact kRt_of (congrArg (fun z => some (Value.int z)) (Eq.symm (Eq.trans (if_pos (show a1 < 0 from b1)) (Eq.trans (if_neg (show ¬ (a2 < 0) from b17)) (if_neg (show ¬ (3 < a2) from b22)))))) rfl
  · refine k_iload_n (i := 1) dX11_checkWind_4 (rfl : 4 + 1 = 5) rfl rfl ?_
    refine k_bipush (v := 8) dX11_checkWind_5 (rfl : 5 + 2 = 7) (by decide) ?_
    refine k_icmp_ge (tgt := 14) dX11_checkWind_7 (rfl : 7 + 3 = 10) (by decide) (fun b7 => ?_) (fun b7 => ?_)
    · refine k_iconst (v := 0) dX11_checkWind_14 (rfl : 14 + 1 = 15) (by decide) ?_
      refine k_istore_n (i := 3) dX11_checkWind_15 (rfl : 15 + 1 = 16) rfl (Nat.le_of_ble_eq_true rfl) ?_
      refine k_ls (ls2 := [.ref 0, .int a1, .int a2, .int 0, .retAddr 0]) rfl ?_
      refine k_iload_n (i := 2) dX11_checkWind_16 (rfl : 16 + 1 = 17) rfl rfl ?_
      refine k_if_lt (tgt := 29) dX11_checkWind_17 (rfl : 17 + 3 = 20) (by decide) (fun b17 => ?_) (fun b17 => ?_)
      · refine k_iconst (v := 0) dX11_checkWind_29 (rfl : 29 + 1 = 30) (by decide) ?_
        refine k_istore (i := 4) dX11_checkWind_30 (rfl : 30 + 2 = 32) (Nat.le_of_ble_eq_true rfl) ?_
        refine k_ls (ls2 := [.ref 0, .int a1, .int a2, .int 0, .int 0]) rfl ?_
        refine k_iload_n (i := 3) dX11_checkWind_32 (rfl : 32 + 1 = 33) rfl rfl ?_
        refine k_if_eq (tgt := 45) dX11_checkWind_33 (rfl : 33 + 3 = 36) (by decide) (fun b33 => ?_) (fun b33 => by exact absurd (by decide) b33)
        refine k_iconst (v := 2) dX11_checkWind_45 (rfl : 45 + 1 = 46) (by decide) ?_
        refine k_iret rfl rfl dX11_checkWind_46 (Nat.le_of_ble_eq_true rfl) (Nat.le_of_ble_eq_true rfl) ?_
        exact kRt_of (congrArg (fun z => some (Value.int z)) (Eq.symm (Eq.trans (if_neg (show ¬ (a1 < 0) from b1)) (Eq.trans (if_pos (show 8 ≤ a1 from b7)) (if_pos (show a2 < 0 from b17)))))) rfl
      · refine k_iload_n (i := 2) dX11_checkWind_20 (rfl : 20 + 1 = 21) rfl rfl ?_
        refine k_iconst (v := 3) dX11_checkWind_21 (rfl : 21 + 1 = 22) (by decide) ?_
        refine k_icmp_gt (tgt := 29) dX11_checkWind_22 (rfl : 22 + 3 = 25) (by decide) (fun b22 => ?_) (fun b22 => ?_)
        · refine k_iconst (v := 0) dX11_checkWind_29 (rfl : 29 + 1 = 30) (by decide) ?_
          refine k_istore (i := 4) dX11_checkWind_30 (rfl : 30 + 2 = 32) (Nat.le_of_ble_eq_true rfl) ?_
          refine k_ls (ls2 := [.ref 0, .int a1, .int a2, .int 0, .int 0]) rfl ?_
          refine k_iload_n (i := 3) dX11_checkWind_32 (rfl : 32 + 1 = 33) rfl rfl ?_
          refine k_if_eq (tgt := 45) dX11_checkWind_33 (rfl : 33 + 3 = 36) (by decide) (fun b33 => ?_) (fun b33 => by exact absurd (by decide) b33)
          refine k_iconst (v := 2) dX11_checkWind_45 (rfl : 45 + 1 = 46) (by decide) ?_
          refine k_iret rfl rfl dX11_checkWind_46 (Nat.le_of_ble_eq_true rfl) (Nat.le_of_ble_eq_true rfl) ?_
          exact kRt_of (congrArg (fun z => some (Value.int z)) (Eq.symm (Eq.trans (if_neg (show ¬ (a1 < 0) from b1)) (Eq.trans (if_pos (show 8 ≤ a1 from b7)) (Eq.trans (if_neg (show ¬ (a2 < 0) from b17)) (if_pos (show 3 < a2 from b22))))))) rfl
        · refine k_iconst (v := 1) dX11_checkWind_25 (rfl : 25 + 1 = 26) (by decide) ?_
          refine k_goto (tgt := 30) dX11_checkWind_26 (by decide) ?_
          refine k_istore (i := 4) dX11_checkWind_30 (rfl : 30 + 2 = 32) (Nat.le_of_ble_eq_true rfl) ?_
          refine k_ls (ls2 := [.ref 0, .int a1, .int a2, .int 0, .int 1]) rfl ?_
          refine k_iload_n (i := 3) dX11_checkWind_32 (rfl : 32 + 1 = 33) rfl rfl ?_
          refine k_if_eq (tgt := 45) dX11_checkWind_33 (rfl : 33 + 3 = 36) (by decide) (fun b33 => ?_) (fun b33 => by exact absurd (by decide) b33)
          refine k_iconst (v := 2) dX11_checkWind_45 (rfl : 45 + 1 = 46) (by decide) ?_
          refine k_iret rfl rfl dX11_checkWind_46 (Nat.le_of_ble_eq_true rfl) (Nat.le_of_ble_eq_true rfl) ?_
          exact kRt_of (congrArg (fun z => some (Value.int z)) (Eq.symm (Eq.trans (if_neg (show ¬ (a1 < 0) from b1)) (Eq.trans (if_pos (show 8 ≤ a1 from b7)) (Eq.trans (if_neg (show ¬ (a2 < 0) from b17)) (if_neg (show ¬ (3 < a2) from b22))))))) rfl
    · refine k_iconst (v := 1) dX11_checkWind_10 (rfl : 10 + 1 = 11) (by decide) ?_
      refine k_goto (tgt := 15) dX11_checkWind_11 (by decide) ?_
      refine k_istore_n (i := 3) dX11_checkWind_15 (rfl : 15 + 1 = 16) rfl (Nat.le_of_ble_eq_true rfl) ?_
      refine k_ls (ls2 := [.ref 0, .int a1, .int a2, .int 1, .retAddr 0]) rfl ?_
      refine k_iload_n (i := 2) dX11_checkWind_16 (rfl : 16 + 1 = 17) rfl rfl ?_
      refine k_if_lt (tgt := 29) dX11_checkWind_17 (rfl : 17 + 3 = 20) (by decide) (fun b17 => ?_) (fun b17 => ?_)
      · refine k_iconst (v := 0) dX11_checkWind_29 (rfl : 29 + 1 = 30) (by decide) ?_
        refine k_istore (i := 4) dX11_checkWind_30 (rfl : 30 + 2 = 32) (Nat.le_of_ble_eq_true rfl) ?_
        refine k_ls (ls2 := [.ref 0, .int a1, .int a2, .int 1, .int 0]) rfl ?_
        refine k_iload_n (i := 3) dX11_checkWind_32 (rfl : 32 + 1 = 33) rfl rfl ?_
        refine k_if_eq (tgt := 45) dX11_checkWind_33 (rfl : 33 + 3 = 36) (by decide) (fun b33 => by exact absurd b33 (by decide)) (fun b33 => ?_)
        refine k_iload (i := 4) dX11_checkWind_36 (rfl : 36 + 2 = 38) rfl ?_
        refine k_if_eq (tgt := 45) dX11_checkWind_38 (rfl : 38 + 3 = 41) (by decide) (fun b38 => ?_) (fun b38 => by exact absurd (by decide) b38)
        refine k_iconst (v := 2) dX11_checkWind_45 (rfl : 45 + 1 = 46) (by decide) ?_
        refine k_iret rfl rfl dX11_checkWind_46 (Nat.le_of_ble_eq_true rfl) (Nat.le_of_ble_eq_true rfl) ?_
        exact kRt_of (congrArg (fun z => some (Value.int z)) (Eq.symm (Eq.trans (if_neg (show ¬ (a1 < 0) from b1)) (Eq.trans (if_neg (show ¬ (8 ≤ a1) from b7)) (if_pos (show a2 < 0 from b17)))))) rfl
      · refine k_iload_n (i := 2) dX11_checkWind_20 (rfl : 20 + 1 = 21) rfl rfl ?_
        refine k_iconst (v := 3) dX11_checkWind_21 (rfl : 21 + 1 = 22) (by decide) ?_
        refine k_icmp_gt (tgt := 29) dX11_checkWind_22 (rfl : 22 + 3 = 25) (by decide) (fun b22 => ?_) (fun b22 => ?_)
        · refine k_iconst (v := 0) dX11_checkWind_29 (rfl : 29 + 1 = 30) (by decide) ?_
          refine k_istore (i := 4) dX11_checkWind_30 (rfl : 30 + 2 = 32) (Nat.le_of_ble_eq_true rfl) ?_
          refine k_ls (ls2 := [.ref 0, .int a1, .int a2, .int 1, .int 0]) rfl ?_
          refine k_iload_n (i := 3) dX11_checkWind_32 (rfl : 32 + 1 = 33) rfl rfl ?_
          refine k_if_eq (tgt := 45) dX11_checkWind_33 (rfl : 33 + 3 = 36) (by decide) (fun b33 => by exact absurd b33 (by decide)) (fun b33 => ?_)
          refine k_iload (i := 4) dX11_checkWind_36 (rfl : 36 + 2 = 38) rfl ?_
          refine k_if_eq (tgt := 45) dX11_checkWind_38 (rfl : 38 + 3 = 41) (by decide) (fun b38 => ?_) (fun b38 => by exact absurd (by decide) b38)
          refine k_iconst (v := 2) dX11_checkWind_45 (rfl : 45 + 1 = 46) (by decide) ?_
          refine k_iret rfl rfl dX11_checkWind_46 (Nat.le_of_ble_eq_true rfl) (Nat.le_of_ble_eq_true rfl) ?_
          exact kRt_of (congrArg (fun z => some (Value.int z)) (Eq.symm (Eq.trans (if_neg (show ¬ (a1 < 0) from b1)) (Eq.trans (if_neg (show ¬ (8 ≤ a1) from b7)) (Eq.trans (if_neg (show ¬ (a2 < 0) from b17)) (if_pos (show 3 < a2 from b22))))))) rfl
        · refine k_iconst (v := 1) dX11_checkWind_25 (rfl : 25 + 1 = 26) (by decide) ?_
          refine k_goto (tgt := 30) dX11_checkWind_26 (by decide) ?_
          refine k_istore (i := 4) dX11_checkWind_30 (rfl : 30 + 2 = 32) (Nat.le_of_ble_eq_true rfl) ?_
          refine k_ls (ls2 := [.ref 0, .int a1, .int a2, .int 1, .int 1]) rfl ?_
          refine k_iload_n (i := 3) dX11_checkWind_32 (rfl : 32 + 1 = 33) rfl rfl ?_
          refine k_if_eq (tgt := 45) dX11_checkWind_33 (rfl : 33 + 3 = 36) (by decide) (fun b33 => by exact absurd b33 (by decide)) (fun b33 => ?_)
          refine k_iload (i := 4) dX11_checkWind_36 (rfl : 36 + 2 = 38) rfl ?_
          refine k_if_eq (tgt := 45) dX11_checkWind_38 (rfl : 38 + 3 = 41) (by decide) (fun b38 => by exact absurd b38 (by decide)) (fun b38 => ?_)
          refine k_iconst (v := 0) dX11_checkWind_41 (rfl : 41 + 1 = 42) (by decide) ?_
          refine k_goto (tgt := 46) dX11_checkWind_42 (by decide) ?_
          refine k_iret rfl rfl dX11_checkWind_46 (Nat.le_of_ble_eq_true rfl) (Nat.le_of_ble_eq_true rfl) ?_
          exact kRt_of (congrArg (fun z => some (Value.int z)) (Eq.symm (Eq.trans (if_neg (show ¬ (a1 < 0) from b1)) (Eq.trans (if_neg (show ¬ (8 ≤ a1) from b7)) (Eq.trans (if_neg (show ¬ (a2 < 0) from b17)) (if_neg (show ¬ (3 < a2) from b22))))))) rfl
def f_X11_checkNewParty (x : kK) (a1 : Int32) (a2 : Int32) : Int32 := if (f_X11_isCell a1 a2) = 0 then 1 else (if ((x.1 0).2.1 3) < 8 then (f_X11_refuseAnythingIn x (f_X11_cellAt a1 a2)) else 3)
def g_X11_checkNewParty (x : kK) (a1 : Int32) (a2 : Int32) : kK := if (f_X11_isCell a1 a2) = 0 then x else (if ((x.1 0).2.1 3) < 8 then (g_X11_refuseAnythingIn x (f_X11_cellAt a1 a2)) else x)
set_option maxRecDepth 100000 in
set_option maxHeartbeats 4000000 in
theorem m_X11_checkNewParty {x : kK} {r : kH} (iv : kIv (x.1 0)) {a1 : Int32} {a2 : Int32} : kMet kX11_checkNewParty false 0 0 [.ref 0, .int a1, .int a2] (kTp (kHc x) r) 130 (kRt (some (.int (f_X11_checkNewParty x a1 a2))) (kTp (kHc (g_X11_checkNewParty x a1 a2)) r) 130) := by
  refine kMet.in (by decide) rfl rfl _ rfl ?_
  refine k_iload_n (i := 1) dX11_checkNewParty_0 (rfl : 0 + 1 = 1) rfl rfl ?_
  refine k_iload_n (i := 2) dX11_checkNewParty_1 (rfl : 1 + 1 = 2) rfl rfl ?_
  refine k_callSd2 cv_X11_117 ⟨Nat.le_of_ble_eq_true rfl, Nat.le_of_ble_eq_true rfl⟩ (m_X11_isCell) dX11_checkNewParty_2 (rfl : 2 + 3 = 5) rfl ⟨Nat.le_of_ble_eq_true rfl, Nat.le_of_ble_eq_true rfl⟩ ?_
  refine k_if_ne (tgt := 10) dX11_checkNewParty_5 (rfl : 5 + 3 = 8) (by decide) (fun b5 => ?_) (fun b5 => ?_)
  · refine k_aload_n (i := 0) dX11_checkNewParty_10 (rfl : 10 + 1 = 11) rfl rfl ?_
    refine k_get 11 0 fg_X11_12 dX11_checkNewParty_11 (rfl : 11 + 3 = 14) (Nat.le_of_ble_eq_true rfl) rfl rfl ?_
    refine k_get 9 0 fg_X11_100 dX11_checkNewParty_14 (rfl : 14 + 3 = 17) (Nat.le_of_ble_eq_true rfl) rfl rfl ?_
    refine k_get 10 4 fg_X11_169 dX11_checkNewParty_17 (rfl : 17 + 3 = 20) (Nat.le_of_ble_eq_true rfl) rfl rfl ?_
    refine k_bipush (v := 8) dX11_checkNewParty_20 (rfl : 20 + 2 = 22) (by decide) ?_
    refine k_icmp_lt (tgt := 27) dX11_checkNewParty_22 (rfl : 22 + 3 = 25) (by decide) (fun b22 => ?_) (fun b22 => ?_)
    · refine k_aload_n (i := 0) dX11_checkNewParty_27 (rfl : 27 + 1 = 28) rfl rfl ?_
      refine k_iload_n (i := 1) dX11_checkNewParty_28 (rfl : 28 + 1 = 29) rfl rfl ?_
      refine k_iload_n (i := 2) dX11_checkNewParty_29 (rfl : 29 + 1 = 30) rfl rfl ?_
      refine k_callSd2 cv_X11_121 ⟨Nat.le_of_ble_eq_true rfl, Nat.le_of_ble_eq_true rfl⟩ (m_X11_cellAt) dX11_checkNewParty_30 (rfl : 30 + 3 = 33) rfl ⟨Nat.le_of_ble_eq_true rfl, Nat.le_of_ble_eq_true rfl⟩ ?_
      refine k_callVd1 cv_X11_459 ⟨Nat.le_of_ble_eq_true rfl, Nat.le_of_ble_eq_true rfl⟩ (m_X11_refuseAnythingIn iv) dX11_checkNewParty_33 (rfl : 33 + 3 = 36) (Nat.le_of_ble_eq_true rfl) rfl rfl rfl ⟨Nat.le_of_ble_eq_true rfl, Nat.le_of_ble_eq_true rfl⟩ ?_
      refine k_iret rfl rfl dX11_checkNewParty_36 (Nat.le_of_ble_eq_true rfl) (Nat.le_of_ble_eq_true rfl) ?_
      exact kRt_of (congrArg (fun z => some (Value.int z)) (Eq.symm (Eq.trans (if_neg (show ¬ ((f_X11_isCell a1 a2) = 0) from b5)) (if_pos (show ((x.1 0).2.1 3) < 8 from b22))))) (congrArg (fun z => kTp (kHc z) r) (Eq.symm (Eq.trans (if_neg (show ¬ ((f_X11_isCell a1 a2) = 0) from b5)) (if_pos (show ((x.1 0).2.1 3) < 8 from b22)))))
    · refine k_iconst (v := 3) dX11_checkNewParty_25 (rfl : 25 + 1 = 26) (by decide) ?_
      refine k_iret rfl rfl dX11_checkNewParty_26 (Nat.le_of_ble_eq_true rfl) (Nat.le_of_ble_eq_true rfl) ?_
      exact kRt_of (congrArg (fun z => some (Value.int z)) (Eq.symm (Eq.trans (if_neg (show ¬ ((f_X11_isCell a1 a2) = 0) from b5)) (if_neg (show ¬ (((x.1 0).2.1 3) < 8) from b22))))) (congrArg (fun z => kTp (kHc z) r) (Eq.symm (Eq.trans (if_neg (show ¬ ((f_X11_isCell a1 a2) = 0) from b5)) (if_neg (show ¬ (((x.1 0).2.1 3) < 8) from b22)))))
  · refine k_iconst (v := 1) dX11_checkNewParty_8 (rfl : 8 + 1 = 9) (by decide) ?_
    refine k_iret rfl rfl dX11_checkNewParty_9 (Nat.le_of_ble_eq_true rfl) (Nat.le_of_ble_eq_true rfl) ?_
    exact kRt_of (congrArg (fun z => some (Value.int z)) (Eq.symm (if_pos (show (f_X11_isCell a1 a2) = 0 from b5)))) (congrArg (fun z => kTp (kHc z) r) (Eq.symm (if_pos (show (f_X11_isCell a1 a2) = 0 from b5))))
def f_X11_checkMove (x : kK) (a1 : Int32) (a2 : Int32) (a3 : Int32) : Int32 := if (b2i (decide (0 ≤ a1 ∧ a1 < ((x.1 0).2.1 3)))) = 0 then 1 else (if (f_X11_isCell a2 a3) = 0 then 1 else (if (((x.1 0).2.2 0) (Int32.toNatClampNeg a1)) = (f_X11_cellAt a2 a3) then 0 else (f_X11_refuseAnythingIn x (f_X11_cellAt a2 a3))))
def g_X11_checkMove (x : kK) (a1 : Int32) (a2 : Int32) (a3 : Int32) : kK := if (b2i (decide (0 ≤ a1 ∧ a1 < ((x.1 0).2.1 3)))) = 0 then x else (if (f_X11_isCell a2 a3) = 0 then x else (if (((x.1 0).2.2 0) (Int32.toNatClampNeg a1)) = (f_X11_cellAt a2 a3) then x else (g_X11_refuseAnythingIn x (f_X11_cellAt a2 a3))))
set_option maxRecDepth 100000 in
set_option maxHeartbeats 4000000 in
theorem m_X11_checkMove {x : kK} {r : kH} (iv : kIv (x.1 0)) {a1 : Int32} {a2 : Int32} {a3 : Int32} : kMet kX11_checkMove false 0 0 [.ref 0, .int a1, .int a2, .int a3] (kTp (kHc x) r) 130 (kRt (some (.int (f_X11_checkMove x a1 a2 a3))) (kTp (kHc (g_X11_checkMove x a1 a2 a3)) r) 130) := by
  refine kMet.in (by decide) rfl rfl _ rfl ?_
  refine k_aload_n (i := 0) dX11_checkMove_0 (rfl : 0 + 1 = 1) rfl rfl ?_
  refine k_get 11 0 fg_X11_12 dX11_checkMove_1 (rfl : 1 + 3 = 4) (Nat.le_of_ble_eq_true rfl) rfl rfl ?_
  refine k_get 9 0 fg_X11_100 dX11_checkMove_4 (rfl : 4 + 3 = 7) (Nat.le_of_ble_eq_true rfl) rfl rfl ?_
  refine k_iload_n (i := 1) dX11_checkMove_7 (rfl : 7 + 1 = 8) rfl rfl ?_
  refine k_callVd1 cv_X11_172 ⟨Nat.le_of_ble_eq_true rfl, Nat.le_of_ble_eq_true rfl⟩ (m_X10_hasParty) dX11_checkMove_8 (rfl : 8 + 3 = 11) (Nat.le_of_ble_eq_true rfl) rfl rfl rfl ⟨Nat.le_of_ble_eq_true rfl, Nat.le_of_ble_eq_true rfl⟩ ?_
  refine k_if_eq (tgt := 22) dX11_checkMove_11 (rfl : 11 + 3 = 14) (by decide) (fun b11 => ?_) (fun b11 => ?_)
  · refine k_iconst (v := 1) dX11_checkMove_22 (rfl : 22 + 1 = 23) (by decide) ?_
    refine k_iret rfl rfl dX11_checkMove_23 (Nat.le_of_ble_eq_true rfl) (Nat.le_of_ble_eq_true rfl) ?_
    exact kRt_of (congrArg (fun z => some (Value.int z)) (Eq.symm (if_pos (show (b2i (decide (0 ≤ a1 ∧ a1 < ((x.1 0).2.1 3)))) = 0 from b11)))) (congrArg (fun z => kTp (kHc z) r) (Eq.symm (if_pos (show (b2i (decide (0 ≤ a1 ∧ a1 < ((x.1 0).2.1 3)))) = 0 from b11))))
  · refine k_iload_n (i := 2) dX11_checkMove_14 (rfl : 14 + 1 = 15) rfl rfl ?_
    refine k_iload_n (i := 3) dX11_checkMove_15 (rfl : 15 + 1 = 16) rfl rfl ?_
    refine k_callSd2 cv_X11_117 ⟨Nat.le_of_ble_eq_true rfl, Nat.le_of_ble_eq_true rfl⟩ (m_X11_isCell) dX11_checkMove_16 (rfl : 16 + 3 = 19) rfl ⟨Nat.le_of_ble_eq_true rfl, Nat.le_of_ble_eq_true rfl⟩ ?_
    refine k_if_ne (tgt := 24) dX11_checkMove_19 (rfl : 19 + 3 = 22) (by decide) (fun b19 => ?_) (fun b19 => ?_)
    · refine k_aload_n (i := 0) dX11_checkMove_24 (rfl : 24 + 1 = 25) rfl rfl ?_
      refine k_get 11 0 fg_X11_12 dX11_checkMove_25 (rfl : 25 + 3 = 28) (Nat.le_of_ble_eq_true rfl) rfl rfl ?_
      refine k_get 9 0 fg_X11_100 dX11_checkMove_28 (rfl : 28 + 3 = 31) (Nat.le_of_ble_eq_true rfl) rfl rfl ?_
      refine k_get 10 5 fg_X11_178 dX11_checkMove_31 (rfl : 31 + 3 = 34) (Nat.le_of_ble_eq_true rfl) rfl rfl ?_
      refine k_iload_n (i := 1) dX11_checkMove_34 (rfl : 34 + 1 = 35) rfl rfl ?_
      refine k_iald dX11_checkMove_35 (rfl : 35 + 1 = 36) (Nat.le_of_ble_eq_true rfl) rfl (kIv_pa iv b11) ?_
      refine k_iload_n (i := 2) dX11_checkMove_36 (rfl : 36 + 1 = 37) rfl rfl ?_
      refine k_iload_n (i := 3) dX11_checkMove_37 (rfl : 37 + 1 = 38) rfl rfl ?_
      refine k_callSd2 cv_X11_121 ⟨Nat.le_of_ble_eq_true rfl, Nat.le_of_ble_eq_true rfl⟩ (m_X11_cellAt) dX11_checkMove_38 (rfl : 38 + 3 = 41) rfl ⟨Nat.le_of_ble_eq_true rfl, Nat.le_of_ble_eq_true rfl⟩ ?_
      refine k_icmp_ne (tgt := 48) dX11_checkMove_41 (rfl : 41 + 3 = 44) (by decide) (fun b41 => ?_) (fun b41 => ?_)
      · refine k_iconst (v := 0) dX11_checkMove_48 (rfl : 48 + 1 = 49) (by decide) ?_
        refine k_istore (i := 4) dX11_checkMove_49 (rfl : 49 + 2 = 51) (Nat.le_of_ble_eq_true rfl) ?_
        refine k_ls (ls2 := [.ref 0, .int a1, .int a2, .int a3, .int 0]) rfl ?_
        refine k_iload (i := 4) dX11_checkMove_51 (rfl : 51 + 2 = 53) rfl ?_
        refine k_if_eq (tgt := 60) dX11_checkMove_53 (rfl : 53 + 3 = 56) (by decide) (fun b53 => ?_) (fun b53 => by exact absurd (by decide) b53)
        refine k_aload_n (i := 0) dX11_checkMove_60 (rfl : 60 + 1 = 61) rfl rfl ?_
        refine k_iload_n (i := 2) dX11_checkMove_61 (rfl : 61 + 1 = 62) rfl rfl ?_
        refine k_iload_n (i := 3) dX11_checkMove_62 (rfl : 62 + 1 = 63) rfl rfl ?_
        refine k_callSd2 cv_X11_121 ⟨Nat.le_of_ble_eq_true rfl, Nat.le_of_ble_eq_true rfl⟩ (m_X11_cellAt) dX11_checkMove_63 (rfl : 63 + 3 = 66) rfl ⟨Nat.le_of_ble_eq_true rfl, Nat.le_of_ble_eq_true rfl⟩ ?_
        refine k_callVd1 cv_X11_459 ⟨Nat.le_of_ble_eq_true rfl, Nat.le_of_ble_eq_true rfl⟩ (m_X11_refuseAnythingIn iv) dX11_checkMove_66 (rfl : 66 + 3 = 69) (Nat.le_of_ble_eq_true rfl) rfl rfl rfl ⟨Nat.le_of_ble_eq_true rfl, Nat.le_of_ble_eq_true rfl⟩ ?_
        refine k_iret rfl rfl dX11_checkMove_69 (Nat.le_of_ble_eq_true rfl) (Nat.le_of_ble_eq_true rfl) ?_
        exact kRt_of (congrArg (fun z => some (Value.int z)) (Eq.symm (Eq.trans (if_neg (show ¬ ((b2i (decide (0 ≤ a1 ∧ a1 < ((x.1 0).2.1 3)))) = 0) from b11)) (Eq.trans (if_neg (show ¬ ((f_X11_isCell a2 a3) = 0) from b19)) (if_neg (show ¬ ((((x.1 0).2.2 0) (Int32.toNatClampNeg a1)) = (f_X11_cellAt a2 a3)) from b41)))))) (congrArg (fun z => kTp (kHc z) r) (Eq.symm (Eq.trans (if_neg (show ¬ ((b2i (decide (0 ≤ a1 ∧ a1 < ((x.1 0).2.1 3)))) = 0) from b11)) (Eq.trans (if_neg (show ¬ ((f_X11_isCell a2 a3) = 0) from b19)) (if_neg (show ¬ ((((x.1 0).2.2 0) (Int32.toNatClampNeg a1)) = (f_X11_cellAt a2 a3)) from b41))))))
      · refine k_iconst (v := 1) dX11_checkMove_44 (rfl : 44 + 1 = 45) (by decide) ?_
        refine k_goto (tgt := 49) dX11_checkMove_45 (by decide) ?_
        refine k_istore (i := 4) dX11_checkMove_49 (rfl : 49 + 2 = 51) (Nat.le_of_ble_eq_true rfl) ?_
        refine k_ls (ls2 := [.ref 0, .int a1, .int a2, .int a3, .int 1]) rfl ?_
        refine k_iload (i := 4) dX11_checkMove_51 (rfl : 51 + 2 = 53) rfl ?_
        refine k_if_eq (tgt := 60) dX11_checkMove_53 (rfl : 53 + 3 = 56) (by decide) (fun b53 => by exact absurd b53 (by decide)) (fun b53 => ?_)
        refine k_iconst (v := 0) dX11_checkMove_56 (rfl : 56 + 1 = 57) (by decide) ?_
        refine k_goto (tgt := 69) dX11_checkMove_57 (by decide) ?_
        refine k_iret rfl rfl dX11_checkMove_69 (Nat.le_of_ble_eq_true rfl) (Nat.le_of_ble_eq_true rfl) ?_
        exact kRt_of (congrArg (fun z => some (Value.int z)) (Eq.symm (Eq.trans (if_neg (show ¬ ((b2i (decide (0 ≤ a1 ∧ a1 < ((x.1 0).2.1 3)))) = 0) from b11)) (Eq.trans (if_neg (show ¬ ((f_X11_isCell a2 a3) = 0) from b19)) (if_pos (show (((x.1 0).2.2 0) (Int32.toNatClampNeg a1)) = (f_X11_cellAt a2 a3) from b41)))))) (congrArg (fun z => kTp (kHc z) r) (Eq.symm (Eq.trans (if_neg (show ¬ ((b2i (decide (0 ≤ a1 ∧ a1 < ((x.1 0).2.1 3)))) = 0) from b11)) (Eq.trans (if_neg (show ¬ ((f_X11_isCell a2 a3) = 0) from b19)) (if_pos (show (((x.1 0).2.2 0) (Int32.toNatClampNeg a1)) = (f_X11_cellAt a2 a3) from b41))))))
    · refine k_iconst (v := 1) dX11_checkMove_22 (rfl : 22 + 1 = 23) (by decide) ?_
      refine k_iret rfl rfl dX11_checkMove_23 (Nat.le_of_ble_eq_true rfl) (Nat.le_of_ble_eq_true rfl) ?_
      exact kRt_of (congrArg (fun z => some (Value.int z)) (Eq.symm (Eq.trans (if_neg (show ¬ ((b2i (decide (0 ≤ a1 ∧ a1 < ((x.1 0).2.1 3)))) = 0) from b11)) (if_pos (show (f_X11_isCell a2 a3) = 0 from b19))))) (congrArg (fun z => kTp (kHc z) r) (Eq.symm (Eq.trans (if_neg (show ¬ ((b2i (decide (0 ≤ a1 ∧ a1 < ((x.1 0).2.1 3)))) = 0) from b11)) (if_pos (show (f_X11_isCell a2 a3) = 0 from b19)))))
def f_X11_checkSummons (x : kK) (a1 : Int32) (a2 : Int32) : Int32 := if (b2i (decide (0 ≤ a1 ∧ a1 < ((x.1 0).2.1 3)))) = 0 then 1 else (if (f_X11_isThrow a2) = 0 then 2 else (if 0 < ((x.1 0).2.1 7) then (if (pFind ((x.1 0).2.2 1) a1 (Int32.toNatClampNeg ((x.1 0).2.1 6)) 0) = (-1) then 0 else (f_X11_refuse x 5 (pFind ((x.1 0).2.2 1) a1 (Int32.toNatClampNeg ((x.1 0).2.1 6)) 0))) else (f_X11_refuse x 4 ((x.1 0).2.1 8))))
def g_X11_checkSummons (x : kK) (a1 : Int32) (a2 : Int32) : kK := if (b2i (decide (0 ≤ a1 ∧ a1 < ((x.1 0).2.1 3)))) = 0 then x else (if (f_X11_isThrow a2) = 0 then x else (if 0 < ((x.1 0).2.1 7) then (if (pFind ((x.1 0).2.2 1) a1 (Int32.toNatClampNeg ((x.1 0).2.1 6)) 0) = (-1) then x else (g_X11_refuse x 5 (pFind ((x.1 0).2.2 1) a1 (Int32.toNatClampNeg ((x.1 0).2.1 6)) 0))) else (g_X11_refuse x 4 ((x.1 0).2.1 8))))
set_option maxRecDepth 100000 in
set_option maxHeartbeats 4000000 in
theorem m_X11_checkSummons {x : kK} {r : kH} (iv : kIv (x.1 0)) {a1 : Int32} {a2 : Int32} : kMet kX11_checkSummons false 0 0 [.ref 0, .int a1, .int a2] (kTp (kHc x) r) 130 (kRt (some (.int (f_X11_checkSummons x a1 a2))) (kTp (kHc (g_X11_checkSummons x a1 a2)) r) 130) := by
  refine kMet.in (by decide) rfl rfl _ rfl ?_
  refine k_aload_n (i := 0) dX11_checkSummons_0 (rfl : 0 + 1 = 1) rfl rfl ?_
  refine k_get 11 0 fg_X11_12 dX11_checkSummons_1 (rfl : 1 + 3 = 4) (Nat.le_of_ble_eq_true rfl) rfl rfl ?_
  refine k_get 9 0 fg_X11_100 dX11_checkSummons_4 (rfl : 4 + 3 = 7) (Nat.le_of_ble_eq_true rfl) rfl rfl ?_
  refine k_iload_n (i := 1) dX11_checkSummons_7 (rfl : 7 + 1 = 8) rfl rfl ?_
  refine k_callVd1 cv_X11_172 ⟨Nat.le_of_ble_eq_true rfl, Nat.le_of_ble_eq_true rfl⟩ (m_X10_hasParty) dX11_checkSummons_8 (rfl : 8 + 3 = 11) (Nat.le_of_ble_eq_true rfl) rfl rfl rfl ⟨Nat.le_of_ble_eq_true rfl, Nat.le_of_ble_eq_true rfl⟩ ?_
  refine k_if_ne (tgt := 16) dX11_checkSummons_11 (rfl : 11 + 3 = 14) (by decide) (fun b11 => ?_) (fun b11 => ?_)
  · refine k_iload_n (i := 2) dX11_checkSummons_16 (rfl : 16 + 1 = 17) rfl rfl ?_
    refine k_callSd1 cv_X11_199 ⟨Nat.le_of_ble_eq_true rfl, Nat.le_of_ble_eq_true rfl⟩ (m_X11_isThrow) dX11_checkSummons_17 (rfl : 17 + 3 = 20) rfl ⟨Nat.le_of_ble_eq_true rfl, Nat.le_of_ble_eq_true rfl⟩ ?_
    refine k_if_ne (tgt := 25) dX11_checkSummons_20 (rfl : 20 + 3 = 23) (by decide) (fun b20 => ?_) (fun b20 => ?_)
    · refine k_aload_n (i := 0) dX11_checkSummons_25 (rfl : 25 + 1 = 26) rfl rfl ?_
      refine k_get 11 0 fg_X11_12 dX11_checkSummons_26 (rfl : 26 + 3 = 29) (Nat.le_of_ble_eq_true rfl) rfl rfl ?_
      refine k_get 9 2 fg_X11_190 dX11_checkSummons_29 (rfl : 29 + 3 = 32) (Nat.le_of_ble_eq_true rfl) rfl rfl ?_
      refine k_get 7 0 fg_X11_252 dX11_checkSummons_32 (rfl : 32 + 3 = 35) (Nat.le_of_ble_eq_true rfl) rfl rfl ?_
      refine k_if_gt (tgt := 54) dX11_checkSummons_35 (rfl : 35 + 3 = 38) (by decide) (fun b35 => ?_) (fun b35 => ?_)
      · refine k_aload_n (i := 0) dX11_checkSummons_54 (rfl : 54 + 1 = 55) rfl rfl ?_
        refine k_get 11 0 fg_X11_12 dX11_checkSummons_55 (rfl : 55 + 3 = 58) (Nat.le_of_ble_eq_true rfl) rfl rfl ?_
        refine k_get 9 1 fg_X11_260 dX11_checkSummons_58 (rfl : 58 + 3 = 61) (Nat.le_of_ble_eq_true rfl) rfl rfl ?_
        refine k_iload_n (i := 1) dX11_checkSummons_61 (rfl : 61 + 1 = 62) rfl rfl ?_
        refine k_callVd1 cv_X11_462 ⟨Nat.le_of_ble_eq_true rfl, Nat.le_of_ble_eq_true rfl⟩ (m_X3_pleaOf iv) dX11_checkSummons_62 (rfl : 62 + 3 = 65) (Nat.le_of_ble_eq_true rfl) rfl rfl rfl ⟨Nat.le_of_ble_eq_true rfl, Nat.le_of_ble_eq_true rfl⟩ ?_
        refine k_istore_n (i := 3) dX11_checkSummons_65 (rfl : 65 + 1 = 66) rfl (Nat.le_of_ble_eq_true rfl) ?_
        refine k_ls (ls2 := [.ref 0, .int a1, .int a2, .int (pFind ((x.1 0).2.2 1) a1 (Int32.toNatClampNeg ((x.1 0).2.1 6)) 0)]) rfl ?_
        refine k_iload_n (i := 3) dX11_checkSummons_66 (rfl : 66 + 1 = 67) rfl rfl ?_
        refine k_iconst (v := (-1)) dX11_checkSummons_67 (rfl : 67 + 1 = 68) (by decide) ?_
        refine k_icmp_eq (tgt := 80) dX11_checkSummons_68 (rfl : 68 + 3 = 71) (by decide) (fun b68 => ?_) (fun b68 => ?_)
        · refine k_iconst (v := 0) dX11_checkSummons_80 (rfl : 80 + 1 = 81) (by decide) ?_
          refine k_iret rfl rfl dX11_checkSummons_81 (Nat.le_of_ble_eq_true rfl) (Nat.le_of_ble_eq_true rfl) ?_
          exact kRt_of (congrArg (fun z => some (Value.int z)) (Eq.symm (Eq.trans (if_neg (show ¬ ((b2i (decide (0 ≤ a1 ∧ a1 < ((x.1 0).2.1 3)))) = 0) from b11)) (Eq.trans (if_neg (show ¬ ((f_X11_isThrow a2) = 0) from b20)) (Eq.trans (if_pos (show 0 < ((x.1 0).2.1 7) from b35)) (if_pos (show (pFind ((x.1 0).2.2 1) a1 (Int32.toNatClampNeg ((x.1 0).2.1 6)) 0) = (-1) from b68))))))) (congrArg (fun z => kTp (kHc z) r) (Eq.symm (Eq.trans (if_neg (show ¬ ((b2i (decide (0 ≤ a1 ∧ a1 < ((x.1 0).2.1 3)))) = 0) from b11)) (Eq.trans (if_neg (show ¬ ((f_X11_isThrow a2) = 0) from b20)) (Eq.trans (if_pos (show 0 < ((x.1 0).2.1 7) from b35)) (if_pos (show (pFind ((x.1 0).2.2 1) a1 (Int32.toNatClampNeg ((x.1 0).2.1 6)) 0) = (-1) from b68)))))))
        · refine k_aload_n (i := 0) dX11_checkSummons_71 (rfl : 71 + 1 = 72) rfl rfl ?_
          refine k_iconst (v := 5) dX11_checkSummons_72 (rfl : 72 + 1 = 73) (by decide) ?_
          refine k_iload_n (i := 3) dX11_checkSummons_73 (rfl : 73 + 1 = 74) rfl rfl ?_
          refine k_callVd2 cv_X11_447 ⟨Nat.le_of_ble_eq_true rfl, Nat.le_of_ble_eq_true rfl⟩ (m_X11_refuse) dX11_checkSummons_74 (rfl : 74 + 3 = 77) (Nat.le_of_ble_eq_true rfl) rfl rfl rfl ⟨Nat.le_of_ble_eq_true rfl, Nat.le_of_ble_eq_true rfl⟩ ?_
          refine k_goto (tgt := 81) dX11_checkSummons_77 (by decide) ?_
          refine k_iret rfl rfl dX11_checkSummons_81 (Nat.le_of_ble_eq_true rfl) (Nat.le_of_ble_eq_true rfl) ?_
          exact kRt_of (congrArg (fun z => some (Value.int z)) (Eq.symm (Eq.trans (if_neg (show ¬ ((b2i (decide (0 ≤ a1 ∧ a1 < ((x.1 0).2.1 3)))) = 0) from b11)) (Eq.trans (if_neg (show ¬ ((f_X11_isThrow a2) = 0) from b20)) (Eq.trans (if_pos (show 0 < ((x.1 0).2.1 7) from b35)) (if_neg (show ¬ ((pFind ((x.1 0).2.2 1) a1 (Int32.toNatClampNeg ((x.1 0).2.1 6)) 0) = (-1)) from b68))))))) (congrArg (fun z => kTp (kHc z) r) (Eq.symm (Eq.trans (if_neg (show ¬ ((b2i (decide (0 ≤ a1 ∧ a1 < ((x.1 0).2.1 3)))) = 0) from b11)) (Eq.trans (if_neg (show ¬ ((f_X11_isThrow a2) = 0) from b20)) (Eq.trans (if_pos (show 0 < ((x.1 0).2.1 7) from b35)) (if_neg (show ¬ ((pFind ((x.1 0).2.2 1) a1 (Int32.toNatClampNeg ((x.1 0).2.1 6)) 0) = (-1)) from b68)))))))
      · refine k_aload_n (i := 0) dX11_checkSummons_38 (rfl : 38 + 1 = 39) rfl rfl ?_
        refine k_iconst (v := 4) dX11_checkSummons_39 (rfl : 39 + 1 = 40) (by decide) ?_
        refine k_aload_n (i := 0) dX11_checkSummons_40 (rfl : 40 + 1 = 41) rfl rfl ?_
        refine k_get 11 0 fg_X11_12 dX11_checkSummons_41 (rfl : 41 + 3 = 44) (Nat.le_of_ble_eq_true rfl) rfl rfl ?_
        refine k_get 9 2 fg_X11_190 dX11_checkSummons_44 (rfl : 44 + 3 = 47) (Nat.le_of_ble_eq_true rfl) rfl rfl ?_
        refine k_get 7 1 fg_X11_312 dX11_checkSummons_47 (rfl : 47 + 3 = 50) (Nat.le_of_ble_eq_true rfl) rfl rfl ?_
        refine k_callVd2 cv_X11_447 ⟨Nat.le_of_ble_eq_true rfl, Nat.le_of_ble_eq_true rfl⟩ (m_X11_refuse) dX11_checkSummons_50 (rfl : 50 + 3 = 53) (Nat.le_of_ble_eq_true rfl) rfl rfl rfl ⟨Nat.le_of_ble_eq_true rfl, Nat.le_of_ble_eq_true rfl⟩ ?_
        refine k_iret rfl rfl dX11_checkSummons_53 (Nat.le_of_ble_eq_true rfl) (Nat.le_of_ble_eq_true rfl) ?_
        exact kRt_of (congrArg (fun z => some (Value.int z)) (Eq.symm (Eq.trans (if_neg (show ¬ ((b2i (decide (0 ≤ a1 ∧ a1 < ((x.1 0).2.1 3)))) = 0) from b11)) (Eq.trans (if_neg (show ¬ ((f_X11_isThrow a2) = 0) from b20)) (if_neg (show ¬ (0 < ((x.1 0).2.1 7)) from b35)))))) (congrArg (fun z => kTp (kHc z) r) (Eq.symm (Eq.trans (if_neg (show ¬ ((b2i (decide (0 ≤ a1 ∧ a1 < ((x.1 0).2.1 3)))) = 0) from b11)) (Eq.trans (if_neg (show ¬ ((f_X11_isThrow a2) = 0) from b20)) (if_neg (show ¬ (0 < ((x.1 0).2.1 7)) from b35))))))
    · refine k_iconst (v := 2) dX11_checkSummons_23 (rfl : 23 + 1 = 24) (by decide) ?_
      refine k_iret rfl rfl dX11_checkSummons_24 (Nat.le_of_ble_eq_true rfl) (Nat.le_of_ble_eq_true rfl) ?_
      exact kRt_of (congrArg (fun z => some (Value.int z)) (Eq.symm (Eq.trans (if_neg (show ¬ ((b2i (decide (0 ≤ a1 ∧ a1 < ((x.1 0).2.1 3)))) = 0) from b11)) (if_pos (show (f_X11_isThrow a2) = 0 from b20))))) (congrArg (fun z => kTp (kHc z) r) (Eq.symm (Eq.trans (if_neg (show ¬ ((b2i (decide (0 ≤ a1 ∧ a1 < ((x.1 0).2.1 3)))) = 0) from b11)) (if_pos (show (f_X11_isThrow a2) = 0 from b20)))))
  · refine k_iconst (v := 1) dX11_checkSummons_14 (rfl : 14 + 1 = 15) (by decide) ?_
    refine k_iret rfl rfl dX11_checkSummons_15 (Nat.le_of_ble_eq_true rfl) (Nat.le_of_ble_eq_true rfl) ?_
    exact kRt_of (congrArg (fun z => some (Value.int z)) (Eq.symm (if_pos (show (b2i (decide (0 ≤ a1 ∧ a1 < ((x.1 0).2.1 3)))) = 0 from b11)))) (congrArg (fun z => kTp (kHc z) r) (Eq.symm (if_pos (show (b2i (decide (0 ≤ a1 ∧ a1 < ((x.1 0).2.1 3)))) = 0 from b11))))
def f_X11_checkPurchase (x : kK) (a1 : Int32) : Int32 := if a1 < 1 then 2 else (if a1 ≤ 20 then (if (2 * a1) ≤ ((x.1 0).2.1 8) then 0 else 3) else 2)
set_option maxRecDepth 100000 in
set_option maxHeartbeats 4000000 in
theorem m_X11_checkPurchase {x : kK} {r : kH} {a1 : Int32} : kMet kX11_checkPurchase false 0 0 [.ref 0, .int a1] (kTp (kHc x) r) 130 (kRt (some (.int (f_X11_checkPurchase x a1))) (kTp (kHc x) r) 130) := by
  refine kMet.in (by decide) rfl rfl _ rfl ?_
  refine k_iload_n (i := 1) dX11_checkPurchase_0 (rfl : 0 + 1 = 1) rfl rfl ?_
  refine k_iconst (v := 1) dX11_checkPurchase_1 (rfl : 1 + 1 = 2) (by decide) ?_
  refine k_icmp_lt (tgt := 11) dX11_checkPurchase_2 (rfl : 2 + 3 = 5) (by decide) (fun b2 => ?_) (fun b2 => ?_)
  · refine k_iconst (v := 2) dX11_checkPurchase_11 (rfl : 11 + 1 = 12) (by decide) ?_
    refine k_iret rfl rfl dX11_checkPurchase_12 (Nat.le_of_ble_eq_true rfl) (Nat.le_of_ble_eq_true rfl) ?_
    exact kRt_of (congrArg (fun z => some (Value.int z)) (Eq.symm (if_pos (show a1 < 1 from b2)))) rfl
  · refine k_iload_n (i := 1) dX11_checkPurchase_5 (rfl : 5 + 1 = 6) rfl rfl ?_
    refine k_bipush (v := 20) dX11_checkPurchase_6 (rfl : 6 + 2 = 8) (by decide) ?_
    refine k_icmp_le (tgt := 13) dX11_checkPurchase_8 (rfl : 8 + 3 = 11) (by decide) (fun b8 => ?_) (fun b8 => ?_)
    · refine k_aload_n (i := 0) dX11_checkPurchase_13 (rfl : 13 + 1 = 14) rfl rfl ?_
      refine k_get 11 0 fg_X11_12 dX11_checkPurchase_14 (rfl : 14 + 3 = 17) (Nat.le_of_ble_eq_true rfl) rfl rfl ?_
      refine k_get 9 2 fg_X11_190 dX11_checkPurchase_17 (rfl : 17 + 3 = 20) (Nat.le_of_ble_eq_true rfl) rfl rfl ?_
      refine k_get 7 1 fg_X11_312 dX11_checkPurchase_20 (rfl : 20 + 3 = 23) (Nat.le_of_ble_eq_true rfl) rfl rfl ?_
      refine k_iconst (v := 2) dX11_checkPurchase_23 (rfl : 23 + 1 = 24) (by decide) ?_
      refine k_iload_n (i := 1) dX11_checkPurchase_24 (rfl : 24 + 1 = 25) rfl rfl ?_
      refine k_imul dX11_checkPurchase_25 (rfl : 25 + 1 = 26) ?_
      refine k_icmp_ge (tgt := 33) dX11_checkPurchase_26 (rfl : 26 + 3 = 29) (by decide) (fun b26 => ?_) (fun b26 => ?_)
      · refine k_iconst (v := 0) dX11_checkPurchase_33 (rfl : 33 + 1 = 34) (by decide) ?_
        refine k_iret rfl rfl dX11_checkPurchase_34 (Nat.le_of_ble_eq_true rfl) (Nat.le_of_ble_eq_true rfl) ?_
        exact kRt_of (congrArg (fun z => some (Value.int z)) (Eq.symm (Eq.trans (if_neg (show ¬ (a1 < 1) from b2)) (Eq.trans (if_pos (show a1 ≤ 20 from b8)) (if_pos (show (2 * a1) ≤ ((x.1 0).2.1 8) from b26)))))) rfl
      · refine k_iconst (v := 3) dX11_checkPurchase_29 (rfl : 29 + 1 = 30) (by decide) ?_
        refine k_goto (tgt := 34) dX11_checkPurchase_30 (by decide) ?_
        refine k_iret rfl rfl dX11_checkPurchase_34 (Nat.le_of_ble_eq_true rfl) (Nat.le_of_ble_eq_true rfl) ?_
        exact kRt_of (congrArg (fun z => some (Value.int z)) (Eq.symm (Eq.trans (if_neg (show ¬ (a1 < 1) from b2)) (Eq.trans (if_pos (show a1 ≤ 20 from b8)) (if_neg (show ¬ ((2 * a1) ≤ ((x.1 0).2.1 8)) from b26)))))) rfl
    · refine k_iconst (v := 2) dX11_checkPurchase_11 (rfl : 11 + 1 = 12) (by decide) ?_
      refine k_iret rfl rfl dX11_checkPurchase_12 (Nat.le_of_ble_eq_true rfl) (Nat.le_of_ble_eq_true rfl) ?_
      exact kRt_of (congrArg (fun z => some (Value.int z)) (Eq.symm (Eq.trans (if_neg (show ¬ (a1 < 1) from b2)) (if_neg (show ¬ (a1 ≤ 20) from b8))))) rfl
def f_X11_checkHearing (x : kK) (a1 : Int32) : Int32 := if (f_X3_hasPlea x a1) = 0 then 1 else (if (f_X3_sitsAt x ((x.1 0).2.1 4)) = 0 then (f_X11_refuse x 6 (((x.1 0).2.1 4) - ((x.1 0).2.1 4) / 24 * 24)) else (if ((((x.1 0).2.2 2) (Int32.toNatClampNeg a1)) - ((x.1 0).2.1 4)) ≤ 0 then 0 else (f_X11_refuse x 7 ((((x.1 0).2.2 2) (Int32.toNatClampNeg a1)) - ((x.1 0).2.1 4)))))
def g_X11_checkHearing (x : kK) (a1 : Int32) : kK := if (f_X3_hasPlea x a1) = 0 then x else (if (f_X3_sitsAt x ((x.1 0).2.1 4)) = 0 then (g_X11_refuse x 6 (((x.1 0).2.1 4) - ((x.1 0).2.1 4) / 24 * 24)) else (if ((((x.1 0).2.2 2) (Int32.toNatClampNeg a1)) - ((x.1 0).2.1 4)) ≤ 0 then x else (g_X11_refuse x 7 ((((x.1 0).2.2 2) (Int32.toNatClampNeg a1)) - ((x.1 0).2.1 4)))))
set_option maxRecDepth 100000 in
set_option maxHeartbeats 4000000 in
theorem m_X11_checkHearing {x : kK} {r : kH} {a1 : Int32} (iv : kIv (x.1 0)) : kMet kX11_checkHearing false 0 0 [.ref 0, .int a1] (kTp (kHc x) r) 130 (kRt (some (.int (f_X11_checkHearing x a1))) (kTp (kHc (g_X11_checkHearing x a1)) r) 130) := by
  refine kMet.in (by decide) rfl rfl _ rfl ?_
  refine k_aload_n (i := 0) dX11_checkHearing_0 (rfl : 0 + 1 = 1) rfl rfl ?_
  refine k_get 11 0 fg_X11_12 dX11_checkHearing_1 (rfl : 1 + 3 = 4) (Nat.le_of_ble_eq_true rfl) rfl rfl ?_
  refine k_get 9 1 fg_X11_260 dX11_checkHearing_4 (rfl : 4 + 3 = 7) (Nat.le_of_ble_eq_true rfl) rfl rfl ?_
  refine k_astore_n (i := 2) dX11_checkHearing_7 (rfl : 7 + 1 = 8) rfl (Nat.le_of_ble_eq_true rfl) ?_
  refine k_ls (ls2 := [.ref 0, .int a1, .ref 4, .retAddr 0]) rfl ?_
  refine k_aload_n (i := 2) dX11_checkHearing_8 (rfl : 8 + 1 = 9) rfl rfl ?_
  refine k_iload_n (i := 1) dX11_checkHearing_9 (rfl : 9 + 1 = 10) rfl rfl ?_
  refine k_callVd1 cv_X11_275 ⟨Nat.le_of_ble_eq_true rfl, Nat.le_of_ble_eq_true rfl⟩ (m_X3_hasPlea) dX11_checkHearing_10 (rfl : 10 + 3 = 13) (Nat.le_of_ble_eq_true rfl) rfl rfl rfl ⟨Nat.le_of_ble_eq_true rfl, Nat.le_of_ble_eq_true rfl⟩ ?_
  refine k_if_ne (tgt := 18) dX11_checkHearing_13 (rfl : 13 + 3 = 16) (by decide) (fun b13 => ?_) (fun b13 => ?_)
  · refine k_aload_n (i := 2) dX11_checkHearing_18 (rfl : 18 + 1 = 19) rfl rfl ?_
    refine k_aload_n (i := 2) dX11_checkHearing_19 (rfl : 19 + 1 = 20) rfl rfl ?_
    refine k_get 3 0 fg_X11_309 dX11_checkHearing_20 (rfl : 20 + 3 = 23) (Nat.le_of_ble_eq_true rfl) rfl rfl ?_
    refine k_callVd1 cv_X11_264 ⟨Nat.le_of_ble_eq_true rfl, Nat.le_of_ble_eq_true rfl⟩ (m_X3_sitsAt) dX11_checkHearing_23 (rfl : 23 + 3 = 26) (Nat.le_of_ble_eq_true rfl) rfl rfl rfl ⟨Nat.le_of_ble_eq_true rfl, Nat.le_of_ble_eq_true rfl⟩ ?_
    refine k_if_ne (tgt := 43) dX11_checkHearing_26 (rfl : 26 + 3 = 29) (by decide) (fun b26 => ?_) (fun b26 => ?_)
    · refine k_aload_n (i := 2) dX11_checkHearing_43 (rfl : 43 + 1 = 44) rfl rfl ?_
      refine k_get 3 4 fg_X11_282 dX11_checkHearing_44 (rfl : 44 + 3 = 47) (Nat.le_of_ble_eq_true rfl) rfl rfl ?_
      refine k_iload_n (i := 1) dX11_checkHearing_47 (rfl : 47 + 1 = 48) rfl rfl ?_
      refine k_iald dX11_checkHearing_48 (rfl : 48 + 1 = 49) (Nat.le_of_ble_eq_true rfl) rfl (kIv_pc iv b13) ?_
      refine k_aload_n (i := 2) dX11_checkHearing_49 (rfl : 49 + 1 = 50) rfl rfl ?_
      refine k_get 3 0 fg_X11_309 dX11_checkHearing_50 (rfl : 50 + 3 = 53) (Nat.le_of_ble_eq_true rfl) rfl rfl ?_
      refine k_isub dX11_checkHearing_53 (rfl : 53 + 1 = 54) ?_
      refine k_istore_n (i := 3) dX11_checkHearing_54 (rfl : 54 + 1 = 55) rfl (Nat.le_of_ble_eq_true rfl) ?_
      refine k_ls (ls2 := [.ref 0, .int a1, .ref 4, .int ((((x.1 0).2.2 2) (Int32.toNatClampNeg a1)) - ((x.1 0).2.1 4))]) rfl ?_
      refine k_iload_n (i := 3) dX11_checkHearing_55 (rfl : 55 + 1 = 56) rfl rfl ?_
      refine k_if_le (tgt := 69) dX11_checkHearing_56 (rfl : 56 + 3 = 59) (by decide) (fun b56 => ?_) (fun b56 => ?_)
      · refine k_iconst (v := 0) dX11_checkHearing_69 (rfl : 69 + 1 = 70) (by decide) ?_
        refine k_iret rfl rfl dX11_checkHearing_70 (Nat.le_of_ble_eq_true rfl) (Nat.le_of_ble_eq_true rfl) ?_
        exact kRt_of (congrArg (fun z => some (Value.int z)) (Eq.symm (Eq.trans (if_neg (show ¬ ((f_X3_hasPlea x a1) = 0) from b13)) (Eq.trans (if_neg (show ¬ ((f_X3_sitsAt x ((x.1 0).2.1 4)) = 0) from b26)) (if_pos (show ((((x.1 0).2.2 2) (Int32.toNatClampNeg a1)) - ((x.1 0).2.1 4)) ≤ 0 from b56)))))) (congrArg (fun z => kTp (kHc z) r) (Eq.symm (Eq.trans (if_neg (show ¬ ((f_X3_hasPlea x a1) = 0) from b13)) (Eq.trans (if_neg (show ¬ ((f_X3_sitsAt x ((x.1 0).2.1 4)) = 0) from b26)) (if_pos (show ((((x.1 0).2.2 2) (Int32.toNatClampNeg a1)) - ((x.1 0).2.1 4)) ≤ 0 from b56))))))
      · refine k_aload_n (i := 0) dX11_checkHearing_59 (rfl : 59 + 1 = 60) rfl rfl ?_
        refine k_bipush (v := 7) dX11_checkHearing_60 (rfl : 60 + 2 = 62) (by decide) ?_
        refine k_iload_n (i := 3) dX11_checkHearing_62 (rfl : 62 + 1 = 63) rfl rfl ?_
        refine k_callVd2 cv_X11_447 ⟨Nat.le_of_ble_eq_true rfl, Nat.le_of_ble_eq_true rfl⟩ (m_X11_refuse) dX11_checkHearing_63 (rfl : 63 + 3 = 66) (Nat.le_of_ble_eq_true rfl) rfl rfl rfl ⟨Nat.le_of_ble_eq_true rfl, Nat.le_of_ble_eq_true rfl⟩ ?_
        refine k_goto (tgt := 70) dX11_checkHearing_66 (by decide) ?_
        refine k_iret rfl rfl dX11_checkHearing_70 (Nat.le_of_ble_eq_true rfl) (Nat.le_of_ble_eq_true rfl) ?_
        exact kRt_of (congrArg (fun z => some (Value.int z)) (Eq.symm (Eq.trans (if_neg (show ¬ ((f_X3_hasPlea x a1) = 0) from b13)) (Eq.trans (if_neg (show ¬ ((f_X3_sitsAt x ((x.1 0).2.1 4)) = 0) from b26)) (if_neg (show ¬ (((((x.1 0).2.2 2) (Int32.toNatClampNeg a1)) - ((x.1 0).2.1 4)) ≤ 0) from b56)))))) (congrArg (fun z => kTp (kHc z) r) (Eq.symm (Eq.trans (if_neg (show ¬ ((f_X3_hasPlea x a1) = 0) from b13)) (Eq.trans (if_neg (show ¬ ((f_X3_sitsAt x ((x.1 0).2.1 4)) = 0) from b26)) (if_neg (show ¬ (((((x.1 0).2.2 2) (Int32.toNatClampNeg a1)) - ((x.1 0).2.1 4)) ≤ 0) from b56))))))
    · refine k_aload_n (i := 0) dX11_checkHearing_29 (rfl : 29 + 1 = 30) rfl rfl ?_
      refine k_bipush (v := 6) dX11_checkHearing_30 (rfl : 30 + 2 = 32) (by decide) ?_
      refine k_aload_n (i := 2) dX11_checkHearing_32 (rfl : 32 + 1 = 33) rfl rfl ?_
      refine k_get 3 0 fg_X11_309 dX11_checkHearing_33 (rfl : 33 + 3 = 36) (Nat.le_of_ble_eq_true rfl) rfl rfl ?_
      refine k_bipush (v := 24) dX11_checkHearing_36 (rfl : 36 + 2 = 38) (by decide) ?_
      refine k_irem dX11_checkHearing_38 (rfl : 38 + 1 = 39) (by decide) ?_
      refine k_callVd2 cv_X11_447 ⟨Nat.le_of_ble_eq_true rfl, Nat.le_of_ble_eq_true rfl⟩ (m_X11_refuse) dX11_checkHearing_39 (rfl : 39 + 3 = 42) (Nat.le_of_ble_eq_true rfl) rfl rfl rfl ⟨Nat.le_of_ble_eq_true rfl, Nat.le_of_ble_eq_true rfl⟩ ?_
      refine k_iret rfl rfl dX11_checkHearing_42 (Nat.le_of_ble_eq_true rfl) (Nat.le_of_ble_eq_true rfl) ?_
      exact kRt_of (congrArg (fun z => some (Value.int z)) (Eq.symm (Eq.trans (if_neg (show ¬ ((f_X3_hasPlea x a1) = 0) from b13)) (if_pos (show (f_X3_sitsAt x ((x.1 0).2.1 4)) = 0 from b26))))) (congrArg (fun z => kTp (kHc z) r) (Eq.symm (Eq.trans (if_neg (show ¬ ((f_X3_hasPlea x a1) = 0) from b13)) (if_pos (show (f_X3_sitsAt x ((x.1 0).2.1 4)) = 0 from b26)))))
  · refine k_iconst (v := 1) dX11_checkHearing_16 (rfl : 16 + 1 = 17) (by decide) ?_
    refine k_iret rfl rfl dX11_checkHearing_17 (Nat.le_of_ble_eq_true rfl) (Nat.le_of_ble_eq_true rfl) ?_
    exact kRt_of (congrArg (fun z => some (Value.int z)) (Eq.symm (if_pos (show (f_X3_hasPlea x a1) = 0 from b13)))) (congrArg (fun z => kTp (kHc z) r) (Eq.symm (if_pos (show (f_X3_hasPlea x a1) = 0 from b13))))
def f_X11_checkPassing (a1 : Int32) : Int32 := if a1 < 1 then 2 else (if 48 < a1 then 2 else 0)
set_option maxRecDepth 100000 in
set_option maxHeartbeats 4000000 in
theorem m_X11_checkPassing {h : kH} {N : Nat} {a1 : Int32} : kMet kX11_checkPassing false 0 0 [.ref 0, .int a1] h N (kRt (some (.int (f_X11_checkPassing a1))) h N) := by
  refine kMet.in (by decide) rfl rfl _ rfl ?_
  refine k_iload_n (i := 1) dX11_checkPassing_0 (rfl : 0 + 1 = 1) rfl rfl ?_
  refine k_iconst (v := 1) dX11_checkPassing_1 (rfl : 1 + 1 = 2) (by decide) ?_
  refine k_icmp_lt (tgt := 15) dX11_checkPassing_2 (rfl : 2 + 3 = 5) (by decide) (fun b2 => ?_) (fun b2 => ?_)
  · refine k_iconst (v := 2) dX11_checkPassing_15 (rfl : 15 + 1 = 16) (by decide) ?_
    refine k_iret rfl rfl dX11_checkPassing_16 (Nat.le_of_ble_eq_true rfl) (Nat.le_of_ble_eq_true rfl) ?_
    exact kRt_of (congrArg (fun z => some (Value.int z)) (Eq.symm (if_pos (show a1 < 1 from b2)))) rfl
  · refine k_iload_n (i := 1) dX11_checkPassing_5 (rfl : 5 + 1 = 6) rfl rfl ?_
    refine k_bipush (v := 48) dX11_checkPassing_6 (rfl : 6 + 2 = 8) (by decide) ?_
    refine k_icmp_gt (tgt := 15) dX11_checkPassing_8 (rfl : 8 + 3 = 11) (by decide) (fun b8 => ?_) (fun b8 => ?_)
    · refine k_iconst (v := 2) dX11_checkPassing_15 (rfl : 15 + 1 = 16) (by decide) ?_
      refine k_iret rfl rfl dX11_checkPassing_16 (Nat.le_of_ble_eq_true rfl) (Nat.le_of_ble_eq_true rfl) ?_
      exact kRt_of (congrArg (fun z => some (Value.int z)) (Eq.symm (Eq.trans (if_neg (show ¬ (a1 < 1) from b2)) (if_pos (show 48 < a1 from b8))))) rfl
    · refine k_iconst (v := 0) dX11_checkPassing_11 (rfl : 11 + 1 = 12) (by decide) ?_
      refine k_goto (tgt := 16) dX11_checkPassing_12 (by decide) ?_
      refine k_iret rfl rfl dX11_checkPassing_16 (Nat.le_of_ble_eq_true rfl) (Nat.le_of_ble_eq_true rfl) ?_
      exact kRt_of (congrArg (fun z => some (Value.int z)) (Eq.symm (Eq.trans (if_neg (show ¬ (a1 < 1) from b2)) (if_neg (show ¬ (48 < a1) from b8))))) rfl
theorem gc_checkTree {x : kK} {a b c : Int32} : (g_X11_checkTree x a b c).1 = x.1 := by
  unfold g_X11_checkTree
  repeat' split
  all_goals simp only [gc_refuseAnythingIn, gc_refuseTreeIn, gc_refusePartyIn, gc_refuseBenchIn, gc_refuse]
theorem gc_checkBench {x : kK} {a b : Int32} : (g_X11_checkBench x a b).1 = x.1 := by
  unfold g_X11_checkBench
  repeat' split
  all_goals simp only [gc_refuseAnythingIn, gc_refuseTreeIn, gc_refusePartyIn, gc_refuseBenchIn, gc_refuse]
theorem gc_checkNewParty {x : kK} {a b : Int32} : (g_X11_checkNewParty x a b).1 = x.1 := by
  unfold g_X11_checkNewParty
  repeat' split
  all_goals simp only [gc_refuseAnythingIn, gc_refuseTreeIn, gc_refusePartyIn, gc_refuseBenchIn, gc_refuse]
theorem gc_checkMove {x : kK} {a b c : Int32} : (g_X11_checkMove x a b c).1 = x.1 := by
  unfold g_X11_checkMove
  repeat' split
  all_goals simp only [gc_refuseAnythingIn, gc_refuseTreeIn, gc_refusePartyIn, gc_refuseBenchIn, gc_refuse]
theorem gc_checkSummons {x : kK} {a b : Int32} : (g_X11_checkSummons x a b).1 = x.1 := by
  unfold g_X11_checkSummons
  repeat' split
  all_goals simp only [gc_refuseAnythingIn, gc_refuseTreeIn, gc_refusePartyIn, gc_refuseBenchIn, gc_refuse]
theorem gc_checkHearing {x : kK} {a : Int32} : (g_X11_checkHearing x a).1 = x.1 := by
  unfold g_X11_checkHearing
  repeat' split
  all_goals simp only [gc_refuseAnythingIn, gc_refuseTreeIn, gc_refusePartyIn, gc_refuseBenchIn, gc_refuse]
def f_X11_plant (x : kK) (a1 : Int32) (a2 : Int32) (a3 : Int32) : Int32 := if a3 = 0 then (f_J13_bitCount_95d88 ((x.1 0).1 &&& ((1 <<< (Int32.toInt64 (f_X11_cellAt a1 a2) &&& 63)) ^^^ (-1 : Int64)))) else (f_J13_bitCount_95d88 ((x.1 0).1 ||| (1 <<< (Int32.toInt64 (f_X11_cellAt a1 a2) &&& 63))))
def g_X11_plant (x : kK) (a1 : Int32) (a2 : Int32) (a3 : Int32) : kK := if a3 = 0 then (nT x ((x.1 0).1 &&& ((1 <<< (Int32.toInt64 (f_X11_cellAt a1 a2) &&& 63)) ^^^ (-1 : Int64)))) else (nT x ((x.1 0).1 ||| (1 <<< (Int32.toInt64 (f_X11_cellAt a1 a2) &&& 63))))
set_option maxRecDepth 100000 in
set_option maxHeartbeats 4000000 in
theorem m_X11_plant {x : kK} {r : kH} {a1 : Int32} {a2 : Int32} {a3 : Int32} : kMet kX11_plant false 0 0 [.ref 0, .int a1, .int a2, .int a3] (kTp (kHc x) r) 130 (kRt (some (.int (f_X11_plant x a1 a2 a3))) (kTp (kHc (g_X11_plant x a1 a2 a3)) r) 130) := by
  refine kMet.in (by decide) rfl rfl _ rfl ?_
  refine k_lconst (v := 1) dX11_plant_0 (rfl : 0 + 1 = 1) (by decide) ?_
  refine k_iload_n (i := 1) dX11_plant_1 (rfl : 1 + 1 = 2) rfl rfl ?_
  refine k_iload_n (i := 2) dX11_plant_2 (rfl : 2 + 1 = 3) rfl rfl ?_
  refine k_callSd2 cv_X11_121 ⟨Nat.le_of_ble_eq_true rfl, Nat.le_of_ble_eq_true rfl⟩ (m_X11_cellAt) dX11_plant_3 (rfl : 3 + 3 = 6) rfl ⟨Nat.le_of_ble_eq_true rfl, Nat.le_of_ble_eq_true rfl⟩ ?_
  refine k_lshl dX11_plant_6 (rfl : 6 + 1 = 7) ?_
  refine k_lstore (i := 4) dX11_plant_7 (rfl : 7 + 2 = 9) (Nat.le_of_ble_eq_true rfl) ?_
  refine k_ls (ls2 := [.ref 0, .int a1, .int a2, .int a3, .long (1 <<< (Int32.toInt64 (f_X11_cellAt a1 a2) &&& 63)), .retAddr 0]) rfl ?_
  refine k_aload_n (i := 0) dX11_plant_9 (rfl : 9 + 1 = 10) rfl rfl ?_
  refine k_get 11 0 fg_X11_12 dX11_plant_10 (rfl : 10 + 3 = 13) (Nat.le_of_ble_eq_true rfl) rfl rfl ?_
  refine k_get 9 0 fg_X11_100 dX11_plant_13 (rfl : 13 + 3 = 16) (Nat.le_of_ble_eq_true rfl) rfl rfl ?_
  refine k_iload_n (i := 3) dX11_plant_16 (rfl : 16 + 1 = 17) rfl rfl ?_
  refine k_if_eq (tgt := 36) dX11_plant_17 (rfl : 17 + 3 = 20) (by decide) (fun b17 => ?_) (fun b17 => ?_)
  · refine k_aload_n (i := 0) dX11_plant_36 (rfl : 36 + 1 = 37) rfl rfl ?_
    refine k_get 11 0 fg_X11_12 dX11_plant_37 (rfl : 37 + 3 = 40) (Nat.le_of_ble_eq_true rfl) rfl rfl ?_
    refine k_get 9 0 fg_X11_100 dX11_plant_40 (rfl : 40 + 3 = 43) (Nat.le_of_ble_eq_true rfl) rfl rfl ?_
    refine k_get 10 0 fg_X11_104 dX11_plant_43 (rfl : 43 + 3 = 46) (Nat.le_of_ble_eq_true rfl) rfl rfl ?_
    refine k_lload (i := 4) dX11_plant_46 (rfl : 46 + 2 = 48) rfl ?_
    refine k_ldc2 dX11_plant_48 (rfl : 48 + 3 = 51) kc_X11_465 ?_
    refine k_lxor dX11_plant_51 (rfl : 51 + 1 = 52) ?_
    refine k_land dX11_plant_52 (rfl : 52 + 1 = 53) ?_
    refine k_put 10 0 fp_X11_104 dX11_plant_53 (rfl : 53 + 3 = 56) (Nat.le_of_ble_eq_true rfl) rfl (Nat.le_of_ble_eq_true rfl) rfl rfl ?_
    refine kf_T (t := ((x.1 0).1 &&& ((1 <<< (Int32.toInt64 (f_X11_cellAt a1 a2) &&& 63)) ^^^ (-1 : Int64)))) rfl ?_
    refine k_aload_n (i := 0) dX11_plant_56 (rfl : 56 + 1 = 57) rfl rfl ?_
    refine k_get 11 0 fg_X11_12 dX11_plant_57 (rfl : 57 + 3 = 60) (Nat.le_of_ble_eq_true rfl) rfl rfl ?_
    refine k_get 9 0 fg_X11_100 dX11_plant_60 (rfl : 60 + 3 = 63) (Nat.le_of_ble_eq_true rfl) rfl rfl ?_
    refine k_get 10 0 fg_X11_104 dX11_plant_63 (rfl : 63 + 3 = 66) (Nat.le_of_ble_eq_true rfl) rfl rfl ?_
    refine k_callSd1 cv_X11_467 ⟨Nat.le_of_ble_eq_true rfl, Nat.le_of_ble_eq_true rfl⟩ (m_J13_bitCount_95d88) dX11_plant_66 (rfl : 66 + 3 = 69) rfl ⟨Nat.le_of_ble_eq_true rfl, Nat.le_of_ble_eq_true rfl⟩ ?_
    refine k_iret rfl rfl dX11_plant_69 (Nat.le_of_ble_eq_true rfl) (Nat.le_of_ble_eq_true rfl) ?_
    exact kRt_of (congrArg (fun z => some (Value.int z)) (Eq.symm (if_pos (show a3 = 0 from b17)))) (congrArg (fun z => kTp (kHc z) r) (Eq.symm (if_pos (show a3 = 0 from b17))))
  · refine k_aload_n (i := 0) dX11_plant_20 (rfl : 20 + 1 = 21) rfl rfl ?_
    refine k_get 11 0 fg_X11_12 dX11_plant_21 (rfl : 21 + 3 = 24) (Nat.le_of_ble_eq_true rfl) rfl rfl ?_
    refine k_get 9 0 fg_X11_100 dX11_plant_24 (rfl : 24 + 3 = 27) (Nat.le_of_ble_eq_true rfl) rfl rfl ?_
    refine k_get 10 0 fg_X11_104 dX11_plant_27 (rfl : 27 + 3 = 30) (Nat.le_of_ble_eq_true rfl) rfl rfl ?_
    refine k_lload (i := 4) dX11_plant_30 (rfl : 30 + 2 = 32) rfl ?_
    refine k_lor dX11_plant_32 (rfl : 32 + 1 = 33) ?_
    refine k_goto (tgt := 53) dX11_plant_33 (by decide) ?_
    refine k_put 10 0 fp_X11_104 dX11_plant_53 (rfl : 53 + 3 = 56) (Nat.le_of_ble_eq_true rfl) rfl (Nat.le_of_ble_eq_true rfl) rfl rfl ?_
    refine kf_T (t := ((x.1 0).1 ||| (1 <<< (Int32.toInt64 (f_X11_cellAt a1 a2) &&& 63)))) rfl ?_
    refine k_aload_n (i := 0) dX11_plant_56 (rfl : 56 + 1 = 57) rfl rfl ?_
    refine k_get 11 0 fg_X11_12 dX11_plant_57 (rfl : 57 + 3 = 60) (Nat.le_of_ble_eq_true rfl) rfl rfl ?_
    refine k_get 9 0 fg_X11_100 dX11_plant_60 (rfl : 60 + 3 = 63) (Nat.le_of_ble_eq_true rfl) rfl rfl ?_
    refine k_get 10 0 fg_X11_104 dX11_plant_63 (rfl : 63 + 3 = 66) (Nat.le_of_ble_eq_true rfl) rfl rfl ?_
    refine k_callSd1 cv_X11_467 ⟨Nat.le_of_ble_eq_true rfl, Nat.le_of_ble_eq_true rfl⟩ (m_J13_bitCount_95d88) dX11_plant_66 (rfl : 66 + 3 = 69) rfl ⟨Nat.le_of_ble_eq_true rfl, Nat.le_of_ble_eq_true rfl⟩ ?_
    refine k_iret rfl rfl dX11_plant_69 (Nat.le_of_ble_eq_true rfl) (Nat.le_of_ble_eq_true rfl) ?_
    exact kRt_of (congrArg (fun z => some (Value.int z)) (Eq.symm (if_neg (show ¬ (a3 = 0) from b17)))) (congrArg (fun z => kTp (kHc z) r) (Eq.symm (if_neg (show ¬ (a3 = 0) from b17))))
def f_X11_placeBench (x : kK) (a1 : Int32) (a2 : Int32) : Int32 := ((x.1 0).2.1 0)
def g_X11_placeBench (x : kK) (a1 : Int32) (a2 : Int32) : kK := (nS x 0 (f_X11_cellAt a1 a2))
set_option maxRecDepth 100000 in
set_option maxHeartbeats 4000000 in
theorem m_X11_placeBench {x : kK} {r : kH} {a1 : Int32} {a2 : Int32} : kMet kX11_placeBench false 0 0 [.ref 0, .int a1, .int a2] (kTp (kHc x) r) 130 (kRt (some (.int (f_X11_placeBench x a1 a2))) (kTp (kHc (g_X11_placeBench x a1 a2)) r) 130) := by
  refine kMet.in (by decide) rfl rfl _ rfl ?_
  refine k_aload_n (i := 0) dX11_placeBench_0 (rfl : 0 + 1 = 1) rfl rfl ?_
  refine k_get 11 0 fg_X11_12 dX11_placeBench_1 (rfl : 1 + 3 = 4) (Nat.le_of_ble_eq_true rfl) rfl rfl ?_
  refine k_get 9 0 fg_X11_100 dX11_placeBench_4 (rfl : 4 + 3 = 7) (Nat.le_of_ble_eq_true rfl) rfl rfl ?_
  refine k_get 10 1 fg_X11_142 dX11_placeBench_7 (rfl : 7 + 3 = 10) (Nat.le_of_ble_eq_true rfl) rfl rfl ?_
  refine k_istore_n (i := 3) dX11_placeBench_10 (rfl : 10 + 1 = 11) rfl (Nat.le_of_ble_eq_true rfl) ?_
  refine k_ls (ls2 := [.ref 0, .int a1, .int a2, .int ((x.1 0).2.1 0)]) rfl ?_
  refine k_aload_n (i := 0) dX11_placeBench_11 (rfl : 11 + 1 = 12) rfl rfl ?_
  refine k_get 11 0 fg_X11_12 dX11_placeBench_12 (rfl : 12 + 3 = 15) (Nat.le_of_ble_eq_true rfl) rfl rfl ?_
  refine k_get 9 0 fg_X11_100 dX11_placeBench_15 (rfl : 15 + 3 = 18) (Nat.le_of_ble_eq_true rfl) rfl rfl ?_
  refine k_iload_n (i := 1) dX11_placeBench_18 (rfl : 18 + 1 = 19) rfl rfl ?_
  refine k_iload_n (i := 2) dX11_placeBench_19 (rfl : 19 + 1 = 20) rfl rfl ?_
  refine k_callSd2 cv_X11_121 ⟨Nat.le_of_ble_eq_true rfl, Nat.le_of_ble_eq_true rfl⟩ (m_X11_cellAt) dX11_placeBench_20 (rfl : 20 + 3 = 23) rfl ⟨Nat.le_of_ble_eq_true rfl, Nat.le_of_ble_eq_true rfl⟩ ?_
  refine k_put 10 1 fp_X11_142 dX11_placeBench_23 (rfl : 23 + 3 = 26) (Nat.le_of_ble_eq_true rfl) rfl (Nat.le_of_ble_eq_true rfl) rfl rfl ?_
  refine kf_S1 0 (v := (f_X11_cellAt a1 a2)) rfl rfl ?_
  refine k_iload_n (i := 3) dX11_placeBench_26 (rfl : 26 + 1 = 27) rfl rfl ?_
  refine k_iret rfl rfl dX11_placeBench_27 (Nat.le_of_ble_eq_true rfl) (Nat.le_of_ble_eq_true rfl) ?_
  exact kRt_of rfl rfl
def f_X11_turnWind (x : kK) (a1 : Int32) (a2 : Int32) : Int32 := ((10 * ((x.1 0).2.1 1)) + ((x.1 0).2.1 2))
def g_X11_turnWind (x : kK) (a1 : Int32) (a2 : Int32) : kK := (nS (nS x 1 a1) 2 a2)
set_option maxRecDepth 100000 in
set_option maxHeartbeats 4000000 in
theorem m_X11_turnWind {x : kK} {r : kH} {a1 : Int32} {a2 : Int32} : kMet kX11_turnWind false 0 0 [.ref 0, .int a1, .int a2] (kTp (kHc x) r) 130 (kRt (some (.int (f_X11_turnWind x a1 a2))) (kTp (kHc (g_X11_turnWind x a1 a2)) r) 130) := by
  refine kMet.in (by decide) rfl rfl _ rfl ?_
  refine k_bipush (v := 10) dX11_turnWind_0 (rfl : 0 + 2 = 2) (by decide) ?_
  refine k_aload_n (i := 0) dX11_turnWind_2 (rfl : 2 + 1 = 3) rfl rfl ?_
  refine k_get 11 0 fg_X11_12 dX11_turnWind_3 (rfl : 3 + 3 = 6) (Nat.le_of_ble_eq_true rfl) rfl rfl ?_
  refine k_get 9 0 fg_X11_100 dX11_turnWind_6 (rfl : 6 + 3 = 9) (Nat.le_of_ble_eq_true rfl) rfl rfl ?_
  refine k_get 10 2 fg_X11_473 dX11_turnWind_9 (rfl : 9 + 3 = 12) (Nat.le_of_ble_eq_true rfl) rfl rfl ?_
  refine k_imul dX11_turnWind_12 (rfl : 12 + 1 = 13) ?_
  refine k_aload_n (i := 0) dX11_turnWind_13 (rfl : 13 + 1 = 14) rfl rfl ?_
  refine k_get 11 0 fg_X11_12 dX11_turnWind_14 (rfl : 14 + 3 = 17) (Nat.le_of_ble_eq_true rfl) rfl rfl ?_
  refine k_get 9 0 fg_X11_100 dX11_turnWind_17 (rfl : 17 + 3 = 20) (Nat.le_of_ble_eq_true rfl) rfl rfl ?_
  refine k_get 10 3 fg_X11_476 dX11_turnWind_20 (rfl : 20 + 3 = 23) (Nat.le_of_ble_eq_true rfl) rfl rfl ?_
  refine k_iadd dX11_turnWind_23 (rfl : 23 + 1 = 24) ?_
  refine k_istore_n (i := 3) dX11_turnWind_24 (rfl : 24 + 1 = 25) rfl (Nat.le_of_ble_eq_true rfl) ?_
  refine k_ls (ls2 := [.ref 0, .int a1, .int a2, .int ((10 * ((x.1 0).2.1 1)) + ((x.1 0).2.1 2))]) rfl ?_
  refine k_aload_n (i := 0) dX11_turnWind_25 (rfl : 25 + 1 = 26) rfl rfl ?_
  refine k_get 11 0 fg_X11_12 dX11_turnWind_26 (rfl : 26 + 3 = 29) (Nat.le_of_ble_eq_true rfl) rfl rfl ?_
  refine k_get 9 0 fg_X11_100 dX11_turnWind_29 (rfl : 29 + 3 = 32) (Nat.le_of_ble_eq_true rfl) rfl rfl ?_
  refine k_iload_n (i := 1) dX11_turnWind_32 (rfl : 32 + 1 = 33) rfl rfl ?_
  refine k_put 10 2 fp_X11_473 dX11_turnWind_33 (rfl : 33 + 3 = 36) (Nat.le_of_ble_eq_true rfl) rfl (Nat.le_of_ble_eq_true rfl) rfl rfl ?_
  refine kf_S1 1 (v := a1) rfl rfl ?_
  refine k_aload_n (i := 0) dX11_turnWind_36 (rfl : 36 + 1 = 37) rfl rfl ?_
  refine k_get 11 0 fg_X11_12 dX11_turnWind_37 (rfl : 37 + 3 = 40) (Nat.le_of_ble_eq_true rfl) rfl rfl ?_
  refine k_get 9 0 fg_X11_100 dX11_turnWind_40 (rfl : 40 + 3 = 43) (Nat.le_of_ble_eq_true rfl) rfl rfl ?_
  refine k_iload_n (i := 2) dX11_turnWind_43 (rfl : 43 + 1 = 44) rfl rfl ?_
  refine k_put 10 3 fp_X11_476 dX11_turnWind_44 (rfl : 44 + 3 = 47) (Nat.le_of_ble_eq_true rfl) rfl (Nat.le_of_ble_eq_true rfl) rfl rfl ?_
  refine kf_S1 2 (v := a2) rfl rfl ?_
  refine k_iload_n (i := 3) dX11_turnWind_47 (rfl : 47 + 1 = 48) rfl rfl ?_
  refine k_iret rfl rfl dX11_turnWind_48 (Nat.le_of_ble_eq_true rfl) (Nat.le_of_ble_eq_true rfl) ?_
  exact kRt_of rfl rfl
theorem kIv_sp {c : kCo} (iv : kIv c) (h : ¬ 8 ≤ c.2.1 3) : vp_in (c.2.1 3) 8 := by
  obtain ⟨n, hn, e⟩ := iv.1
  rw [e] at h ⊢
  refine vp_in_nI ?_ (by omega)
  rcases Nat.lt_or_ge n 8 with q | q
  · exact q
  · exact absurd (nI_le (a := 8) (b := n) q (by omega)) h
def f_X11_seatParty (x : kK) (a1 : Int32) (a2 : Int32) : Int32 := if 8 ≤ ((x.1 0).2.1 3) then ((x.1 0).2.1 3) else ((x.1 0).2.1 3)
def g_X11_seatParty (x : kK) (a1 : Int32) (a2 : Int32) : kK := if 8 ≤ ((x.1 0).2.1 3) then x else (nS (nR x 0 (upd ((x.1 0).2.2 0) (Int32.toNatClampNeg ((x.1 0).2.1 3)) (f_X11_cellAt a1 a2))) 3 (((x.1 0).2.1 3) + 1))
set_option maxRecDepth 100000 in
set_option maxHeartbeats 4000000 in
theorem m_X11_seatParty {x : kK} {r : kH} {a1 : Int32} {a2 : Int32} (iv : kIv (x.1 0)) : kMet kX11_seatParty false 0 0 [.ref 0, .int a1, .int a2] (kTp (kHc x) r) 130 (kRt (some (.int (f_X11_seatParty x a1 a2))) (kTp (kHc (g_X11_seatParty x a1 a2)) r) 130) := by
  refine kMet.in (by decide) rfl rfl _ rfl ?_
  refine k_aload_n (i := 0) dX11_seatParty_0 (rfl : 0 + 1 = 1) rfl rfl ?_
  refine k_get 11 0 fg_X11_12 dX11_seatParty_1 (rfl : 1 + 3 = 4) (Nat.le_of_ble_eq_true rfl) rfl rfl ?_
  refine k_get 9 0 fg_X11_100 dX11_seatParty_4 (rfl : 4 + 3 = 7) (Nat.le_of_ble_eq_true rfl) rfl rfl ?_
  refine k_get 10 4 fg_X11_169 dX11_seatParty_7 (rfl : 7 + 3 = 10) (Nat.le_of_ble_eq_true rfl) rfl rfl ?_
  refine k_istore_n (i := 3) dX11_seatParty_10 (rfl : 10 + 1 = 11) rfl (Nat.le_of_ble_eq_true rfl) ?_
  refine k_ls (ls2 := [.ref 0, .int a1, .int a2, .int ((x.1 0).2.1 3)]) rfl ?_
  refine k_iload_n (i := 3) dX11_seatParty_11 (rfl : 11 + 1 = 12) rfl rfl ?_
  refine k_bipush (v := 8) dX11_seatParty_12 (rfl : 12 + 2 = 14) (by decide) ?_
  refine k_icmp_ge (tgt := 50) dX11_seatParty_14 (rfl : 14 + 3 = 17) (by decide) (fun b14 => ?_) (fun b14 => ?_)
  · refine k_iload_n (i := 3) dX11_seatParty_50 (rfl : 50 + 1 = 51) rfl rfl ?_
    refine k_iret rfl rfl dX11_seatParty_51 (Nat.le_of_ble_eq_true rfl) (Nat.le_of_ble_eq_true rfl) ?_
    exact kRt_of (congrArg (fun z => some (Value.int z)) (Eq.symm (if_pos (show 8 ≤ ((x.1 0).2.1 3) from b14)))) (congrArg (fun z => kTp (kHc z) r) (Eq.symm (if_pos (show 8 ≤ ((x.1 0).2.1 3) from b14))))
  · refine k_aload_n (i := 0) dX11_seatParty_17 (rfl : 17 + 1 = 18) rfl rfl ?_
    refine k_get 11 0 fg_X11_12 dX11_seatParty_18 (rfl : 18 + 3 = 21) (Nat.le_of_ble_eq_true rfl) rfl rfl ?_
    refine k_get 9 0 fg_X11_100 dX11_seatParty_21 (rfl : 21 + 3 = 24) (Nat.le_of_ble_eq_true rfl) rfl rfl ?_
    refine k_get 10 5 fg_X11_178 dX11_seatParty_24 (rfl : 24 + 3 = 27) (Nat.le_of_ble_eq_true rfl) rfl rfl ?_
    refine k_iload_n (i := 3) dX11_seatParty_27 (rfl : 27 + 1 = 28) rfl rfl ?_
    refine k_iload_n (i := 1) dX11_seatParty_28 (rfl : 28 + 1 = 29) rfl rfl ?_
    refine k_iload_n (i := 2) dX11_seatParty_29 (rfl : 29 + 1 = 30) rfl rfl ?_
    refine k_callSd2 cv_X11_121 ⟨Nat.le_of_ble_eq_true rfl, Nat.le_of_ble_eq_true rfl⟩ (m_X11_cellAt) dX11_seatParty_30 (rfl : 30 + 3 = 33) rfl ⟨Nat.le_of_ble_eq_true rfl, Nat.le_of_ble_eq_true rfl⟩ ?_
    refine k_iast dX11_seatParty_33 (rfl : 33 + 1 = 34) (Nat.le_of_ble_eq_true rfl) rfl (kIv_sp iv b14) ?_
    refine kf_R0 (f := (upd ((x.1 0).2.2 0) (Int32.toNatClampNeg ((x.1 0).2.1 3)) (f_X11_cellAt a1 a2))) rfl ?_
    refine k_aload_n (i := 0) dX11_seatParty_34 (rfl : 34 + 1 = 35) rfl rfl ?_
    refine k_get 11 0 fg_X11_12 dX11_seatParty_35 (rfl : 35 + 3 = 38) (Nat.le_of_ble_eq_true rfl) rfl rfl ?_
    refine k_get 9 0 fg_X11_100 dX11_seatParty_38 (rfl : 38 + 3 = 41) (Nat.le_of_ble_eq_true rfl) rfl rfl ?_
    refine k_dup dX11_seatParty_41 (rfl : 41 + 1 = 42) rfl ?_
    refine k_get 10 4 fg_X11_169 dX11_seatParty_42 (rfl : 42 + 3 = 45) (Nat.le_of_ble_eq_true rfl) rfl rfl ?_
    refine k_iconst (v := 1) dX11_seatParty_45 (rfl : 45 + 1 = 46) (by decide) ?_
    refine k_iadd dX11_seatParty_46 (rfl : 46 + 1 = 47) ?_
    refine k_put 10 4 fp_X11_169 dX11_seatParty_47 (rfl : 47 + 3 = 50) (Nat.le_of_ble_eq_true rfl) rfl (Nat.le_of_ble_eq_true rfl) rfl rfl ?_
    refine kf_S1 3 (v := (((x.1 0).2.1 3) + 1)) rfl rfl ?_
    refine k_iload_n (i := 3) dX11_seatParty_50 (rfl : 50 + 1 = 51) rfl rfl ?_
    refine k_iret rfl rfl dX11_seatParty_51 (Nat.le_of_ble_eq_true rfl) (Nat.le_of_ble_eq_true rfl) ?_
    exact kRt_of (congrArg (fun z => some (Value.int z)) (Eq.symm (if_neg (show ¬ (8 ≤ ((x.1 0).2.1 3)) from b14)))) (congrArg (fun z => kTp (kHc z) r) (Eq.symm (if_neg (show ¬ (8 ≤ ((x.1 0).2.1 3)) from b14))))
def f_X11_shiftParty (x : kK) (a1 : Int32) (a2 : Int32) (a3 : Int32) : Int32 := (((x.1 0).2.2 0) (Int32.toNatClampNeg a1))
def g_X11_shiftParty (x : kK) (a1 : Int32) (a2 : Int32) (a3 : Int32) : kK := (nR x 0 (upd ((x.1 0).2.2 0) (Int32.toNatClampNeg a1) (f_X11_cellAt a2 a3)))
set_option maxRecDepth 100000 in
set_option maxHeartbeats 4000000 in
theorem m_X11_shiftParty {x : kK} {r : kH} {a1 : Int32} {a2 : Int32} {a3 : Int32} (hb : vp_in a1 8) : kMet kX11_shiftParty false 0 0 [.ref 0, .int a1, .int a2, .int a3] (kTp (kHc x) r) 130 (kRt (some (.int (f_X11_shiftParty x a1 a2 a3))) (kTp (kHc (g_X11_shiftParty x a1 a2 a3)) r) 130) := by
  refine kMet.in (by decide) rfl rfl _ rfl ?_
  refine k_aload_n (i := 0) dX11_shiftParty_0 (rfl : 0 + 1 = 1) rfl rfl ?_
  refine k_get 11 0 fg_X11_12 dX11_shiftParty_1 (rfl : 1 + 3 = 4) (Nat.le_of_ble_eq_true rfl) rfl rfl ?_
  refine k_get 9 0 fg_X11_100 dX11_shiftParty_4 (rfl : 4 + 3 = 7) (Nat.le_of_ble_eq_true rfl) rfl rfl ?_
  refine k_get 10 5 fg_X11_178 dX11_shiftParty_7 (rfl : 7 + 3 = 10) (Nat.le_of_ble_eq_true rfl) rfl rfl ?_
  refine k_iload_n (i := 1) dX11_shiftParty_10 (rfl : 10 + 1 = 11) rfl rfl ?_
  refine k_iald dX11_shiftParty_11 (rfl : 11 + 1 = 12) (Nat.le_of_ble_eq_true rfl) rfl hb ?_
  refine k_istore (i := 4) dX11_shiftParty_12 (rfl : 12 + 2 = 14) (Nat.le_of_ble_eq_true rfl) ?_
  refine k_ls (ls2 := [.ref 0, .int a1, .int a2, .int a3, .int (((x.1 0).2.2 0) (Int32.toNatClampNeg a1))]) rfl ?_
  refine k_aload_n (i := 0) dX11_shiftParty_14 (rfl : 14 + 1 = 15) rfl rfl ?_
  refine k_get 11 0 fg_X11_12 dX11_shiftParty_15 (rfl : 15 + 3 = 18) (Nat.le_of_ble_eq_true rfl) rfl rfl ?_
  refine k_get 9 0 fg_X11_100 dX11_shiftParty_18 (rfl : 18 + 3 = 21) (Nat.le_of_ble_eq_true rfl) rfl rfl ?_
  refine k_get 10 5 fg_X11_178 dX11_shiftParty_21 (rfl : 21 + 3 = 24) (Nat.le_of_ble_eq_true rfl) rfl rfl ?_
  refine k_iload_n (i := 1) dX11_shiftParty_24 (rfl : 24 + 1 = 25) rfl rfl ?_
  refine k_iload_n (i := 2) dX11_shiftParty_25 (rfl : 25 + 1 = 26) rfl rfl ?_
  refine k_iload_n (i := 3) dX11_shiftParty_26 (rfl : 26 + 1 = 27) rfl rfl ?_
  refine k_callSd2 cv_X11_121 ⟨Nat.le_of_ble_eq_true rfl, Nat.le_of_ble_eq_true rfl⟩ (m_X11_cellAt) dX11_shiftParty_27 (rfl : 27 + 3 = 30) rfl ⟨Nat.le_of_ble_eq_true rfl, Nat.le_of_ble_eq_true rfl⟩ ?_
  refine k_iast dX11_shiftParty_30 (rfl : 30 + 1 = 31) (Nat.le_of_ble_eq_true rfl) rfl hb ?_
  refine kf_R0 (f := (upd ((x.1 0).2.2 0) (Int32.toNatClampNeg a1) (f_X11_cellAt a2 a3))) rfl ?_
  refine k_iload (i := 4) dX11_shiftParty_31 (rfl : 31 + 2 = 33) rfl ?_
  refine k_iret rfl rfl dX11_shiftParty_33 (Nat.le_of_ble_eq_true rfl) (Nat.le_of_ble_eq_true rfl) ?_
  exact kRt_of rfl rfl
def f_X11_purchase (x : kK) (a1 : Int32) : Int32 := (((x.1 0).2.1 7) + a1)
def g_X11_purchase (x : kK) (a1 : Int32) : kK := (nS (nS (nS x 7 (((x.1 0).2.1 7) + a1)) 8 (((x.1 0).2.1 8) - (2 * a1))) 11 (((x.1 0).2.1 11) + (2 * a1)))
set_option maxRecDepth 100000 in
set_option maxHeartbeats 4000000 in
theorem m_X11_purchase {x : kK} {r : kH} {a1 : Int32} : kMet kX11_purchase false 0 0 [.ref 0, .int a1] (kTp (kHc x) r) 130 (kRt (some (.int (f_X11_purchase x a1))) (kTp (kHc (g_X11_purchase x a1)) r) 130) := by
  refine kMet.in (by decide) rfl rfl _ rfl ?_
  refine k_aload_n (i := 0) dX11_purchase_0 (rfl : 0 + 1 = 1) rfl rfl ?_
  refine k_get 11 0 fg_X11_12 dX11_purchase_1 (rfl : 1 + 3 = 4) (Nat.le_of_ble_eq_true rfl) rfl rfl ?_
  refine k_get 9 2 fg_X11_190 dX11_purchase_4 (rfl : 4 + 3 = 7) (Nat.le_of_ble_eq_true rfl) rfl rfl ?_
  refine k_astore_n (i := 2) dX11_purchase_7 (rfl : 7 + 1 = 8) rfl (Nat.le_of_ble_eq_true rfl) ?_
  refine k_ls (ls2 := [.ref 0, .int a1, .ref 8]) rfl ?_
  refine k_aload_n (i := 2) dX11_purchase_8 (rfl : 8 + 1 = 9) rfl rfl ?_
  refine k_dup dX11_purchase_9 (rfl : 9 + 1 = 10) rfl ?_
  refine k_get 7 0 fg_X11_252 dX11_purchase_10 (rfl : 10 + 3 = 13) (Nat.le_of_ble_eq_true rfl) rfl rfl ?_
  refine k_iload_n (i := 1) dX11_purchase_13 (rfl : 13 + 1 = 14) rfl rfl ?_
  refine k_iadd dX11_purchase_14 (rfl : 14 + 1 = 15) ?_
  refine k_put 7 0 fp_X11_252 dX11_purchase_15 (rfl : 15 + 3 = 18) (Nat.le_of_ble_eq_true rfl) rfl (Nat.le_of_ble_eq_true rfl) rfl rfl ?_
  refine kf_S7 7 (v := (((x.1 0).2.1 7) + a1)) rfl rfl ?_
  refine k_aload_n (i := 2) dX11_purchase_18 (rfl : 18 + 1 = 19) rfl rfl ?_
  refine k_dup dX11_purchase_19 (rfl : 19 + 1 = 20) rfl ?_
  refine k_get 7 1 fg_X11_312 dX11_purchase_20 (rfl : 20 + 3 = 23) (Nat.le_of_ble_eq_true rfl) rfl rfl ?_
  refine k_iconst (v := 2) dX11_purchase_23 (rfl : 23 + 1 = 24) (by decide) ?_
  refine k_iload_n (i := 1) dX11_purchase_24 (rfl : 24 + 1 = 25) rfl rfl ?_
  refine k_imul dX11_purchase_25 (rfl : 25 + 1 = 26) ?_
  refine k_isub dX11_purchase_26 (rfl : 26 + 1 = 27) ?_
  refine k_put 7 1 fp_X11_312 dX11_purchase_27 (rfl : 27 + 3 = 30) (Nat.le_of_ble_eq_true rfl) rfl (Nat.le_of_ble_eq_true rfl) rfl rfl ?_
  refine kf_S7 8 (v := (((x.1 0).2.1 8) - (2 * a1))) rfl rfl ?_
  refine k_aload_n (i := 2) dX11_purchase_30 (rfl : 30 + 1 = 31) rfl rfl ?_
  refine k_dup dX11_purchase_31 (rfl : 31 + 1 = 32) rfl ?_
  refine k_get 7 4 fg_X11_321 dX11_purchase_32 (rfl : 32 + 3 = 35) (Nat.le_of_ble_eq_true rfl) rfl rfl ?_
  refine k_iconst (v := 2) dX11_purchase_35 (rfl : 35 + 1 = 36) (by decide) ?_
  refine k_iload_n (i := 1) dX11_purchase_36 (rfl : 36 + 1 = 37) rfl rfl ?_
  refine k_imul dX11_purchase_37 (rfl : 37 + 1 = 38) ?_
  refine k_iadd dX11_purchase_38 (rfl : 38 + 1 = 39) ?_
  refine k_put 7 4 fp_X11_321 dX11_purchase_39 (rfl : 39 + 3 = 42) (Nat.le_of_ble_eq_true rfl) rfl (Nat.le_of_ble_eq_true rfl) rfl rfl ?_
  refine kf_S7 11 (v := (((x.1 0).2.1 11) + (2 * a1))) rfl rfl ?_
  refine k_aload_n (i := 2) dX11_purchase_42 (rfl : 42 + 1 = 43) rfl rfl ?_
  refine k_get 7 0 fg_X11_252 dX11_purchase_43 (rfl : 43 + 3 = 46) (Nat.le_of_ble_eq_true rfl) rfl rfl ?_
  refine k_iret rfl rfl dX11_purchase_46 (Nat.le_of_ble_eq_true rfl) (Nat.le_of_ble_eq_true rfl) ?_
  exact kRt_of rfl rfl
