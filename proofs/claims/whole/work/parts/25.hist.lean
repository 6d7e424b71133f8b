def g_rem (x : kK) (s e c : Nat) : kK := kkS (kkS (kkC x (3 + e) (x.1 s)) 0 (nI ((e + 1) % 8))) 1 (nI (min (c + 1) 8))
def g_tak (x : kK) (e c : Nat) : kK := kkS (kkC (kkS x 0 (nI ((e + 7) % 8))) 0 (x.1 (3 + (e + 7) % 8))) 1 (nI (c - 1))
theorem hist_at {e : Nat} (he : e < 8) : (fun j => cond (Nat.blt j 8) (some (30 + 9 * j)) none : Nat → Option Nat) (nI e).toNatClampNeg = some (bs (3 + e)) := by
  simp only []
  rw [nI_clamp (by omega), blt_t he]
  show some (30 + 9 * e) = some (bs (3 + e))
  unfold bs
  rw [if_neg (by omega)]
  congr 1
  omega
theorem min8 {c : Nat} (hc : c ≤ 8) : (if (8 : Int32) < nI (c + 1) then (8 : Int32) else nI (c + 1)) = nI (min (c + 1) 8) := by
  rcases Nat.lt_or_ge c 8 with q | q
  · rw [if_neg (show ¬ (8 : Int32) < nI (c + 1) from nI_nlt (a := 8) (b := c + 1) q (by decide)), Nat.min_eq_left (by omega)]
  · obtain rfl : c = 8 := by omega
    decide
theorem rem8 {a : Nat} (ha : a < 2 ^ 30) : nI a - nI a / 8 * 8 = nI (a % 8) := pk_rem (d := 8) (by omega) (by decide) (by decide)
set_option maxRecDepth 100000 in
set_option maxHeartbeats 4000000 in
theorem m_X6_remember {x : kK} {r : kH} {s e c : Nat} (hs : s < 11) (he : e < 8) (hc : c ≤ 8) (hne : 3 + e ≠ s) (en : x.2.1 0 = nI e) (ec : x.2.1 1 = nI c) : kMet kX6_remember false 0 0 [.ref 28, .ref (bs s)] (kTp (kHc x) r) 130 (kRt none (kTp (kHc (g_rem x s e c)) r) 130) := by
  have q9 := bs_lt (k := 3 + e) (by omega)
  have q8 := bs_lt hs
  refine kMet.in (by decide) rfl rfl _ rfl ?_
  refine k_aload_n (i := 0) dX6_remember_0 (rfl : 0 + 1 = 1) rfl rfl ?_
  refine k_get 6 0 fg_X6_11 dX6_remember_1 (rfl : 1 + 3 = 4) (Nat.le_of_ble_eq_true rfl) rfl rfl ?_
  refine k_aload_n (i := 0) dX6_remember_4 (rfl : 4 + 1 = 5) rfl rfl ?_
  refine k_get 6 1 fg_X6_18 dX6_remember_5 (rfl : 5 + 3 = 8) (Nat.le_of_ble_eq_true rfl) rfl rfl ?_
  refine k_rald (t := 4) (n := 8) (a := bs (3 + e)) (Or.inl rfl) dX6_remember_8 (rfl : 8 + 1 = 9) (Nat.le_of_ble_eq_true rfl) rfl (by show vp_in (x.2.1 0) 8; rw [en]; exact vp_in_nI (by omega) (by omega)) (by show (fun j => cond (Nat.blt j 8) (some (30 + 9 * j)) none : Nat → Option Nat) (x.2.1 0).toNatClampNeg = some (bs (3 + e)); rw [en]; exact hist_at he) ?_
  refine k_aload_n (i := 1) dX6_remember_9 (rfl : 9 + 1 = 10) rfl rfl ?_
  refine k_callVv1 cv_X6_22 ⟨Nat.le_of_ble_eq_true rfl, Nat.le_of_ble_eq_true rfl⟩ (m_X9_copyFrom (by omega) hs hne) dX6_remember_10 (rfl : 10 + 3 = 13) (by omega) (kTp_bl (t := 0) (by omega) (by decide)) rfl rfl ⟨Nat.le_of_ble_eq_true rfl, Nat.le_of_ble_eq_true rfl⟩ ?_
  refine k_aload_n (i := 0) dX6_remember_13 (rfl : 13 + 1 = 14) rfl rfl ?_
  refine k_aload_n (i := 0) dX6_remember_14 (rfl : 14 + 1 = 15) rfl rfl ?_
  refine k_get 6 1 fg_X6_18 dX6_remember_15 (rfl : 15 + 3 = 18) (Nat.le_of_ble_eq_true rfl) rfl rfl ?_
  refine k_iconst (v := 1) dX6_remember_18 (rfl : 18 + 1 = 19) (by decide) ?_
  refine k_iadd dX6_remember_19 (rfl : 19 + 1 = 20) ?_
  refine k_bipush (v := 8) dX6_remember_20 (rfl : 20 + 2 = 22) (by decide) ?_
  refine k_irem dX6_remember_22 (rfl : 22 + 1 = 23) (by decide) ?_
  refine k_put 6 1 fp_X6_18 dX6_remember_23 (rfl : 23 + 3 = 26) (Nat.le_of_ble_eq_true rfl) rfl (Nat.le_of_ble_eq_true rfl) rfl rfl ?_
  refine kf_C0 (v := ((((kkC x (3 + e) (x.1 s)).2.1 0) + 1) - (((kkC x (3 + e) (x.1 s)).2.1 0) + 1) / 8 * 8)) rfl ?_
  refine k_aload_n (i := 0) dX6_remember_26 (rfl : 26 + 1 = 27) rfl rfl ?_
  refine k_aload_n (i := 0) dX6_remember_27 (rfl : 27 + 1 = 28) rfl rfl ?_
  refine k_get 6 2 fg_X6_26 dX6_remember_28 (rfl : 28 + 3 = 31) (Nat.le_of_ble_eq_true rfl) rfl rfl ?_
  refine k_iconst (v := 1) dX6_remember_31 (rfl : 31 + 1 = 32) (by decide) ?_
  refine k_iadd dX6_remember_32 (rfl : 32 + 1 = 33) ?_
  refine k_bipush (v := 8) dX6_remember_33 (rfl : 33 + 2 = 35) (by decide) ?_
  refine k_mmin (gm 806 (by decide +kernel) (by decide +kernel)) (gm 807 (by decide +kernel) (by decide +kernel)) (gm 107 (by decide +kernel) (by decide +kernel)) (gm 808 (by decide +kernel) (by decide +kernel)) dX6_remember_35 (rfl : 35 + 3 = 38) (Nat.le_of_ble_eq_true rfl) (Nat.le_of_ble_eq_true rfl) (Nat.zero_le _) (Nat.zero_le _) ?_
  refine k_put 6 2 fp_X6_26 dX6_remember_38 (rfl : 38 + 3 = 41) (Nat.le_of_ble_eq_true rfl) rfl (Nat.le_of_ble_eq_true rfl) rfl rfl ?_
  refine kf_C1 (v := (if 8 < (((kkC x (3 + e) (x.1 s)).2.1 1) + 1) then 8 else (((kkC x (3 + e) (x.1 s)).2.1 1) + 1))) rfl ?_
  refine k_vret rfl dX6_remember_41 (Nat.le_of_ble_eq_true rfl) (Nat.le_of_ble_eq_true rfl) ?_
  refine kRt_of rfl ?_
  unfold g_rem
  have e1 : (kkC x (3 + e) (x.1 s)).2.1 = x.2.1 := rfl
  simp only [e1, en, ec, min8 hc, nI_1]
  rw [rem8 (by omega)]
set_option maxRecDepth 100000 in
set_option maxHeartbeats 4000000 in
theorem m_X6_takeBack {x : kK} {r : kH} {e c : Nat} (he : e < 8) (hc : c ≤ 8) (h0 : 0 < c) (en : x.2.1 0 = nI e) (ec : x.2.1 1 = nI c) : kMet kX6_takeBack false 0 0 [.ref 28, .ref 1] (kTp (kHc x) r) 130 (kRt none (kTp (kHc (g_tak x e c)) r) 130) := by
  have q9 := bs_lt (k := 3 + (e + 7) % 8) (by omega)
  have ee : x.2.1 0 + 8 - 1 = nI (e + 7) := by rw [en, show nI e + 8 = nI (e + 8) from nI_add e 8]; exact nI_pred (e + 7)
  refine kMet.in (by decide) rfl rfl _ rfl ?_
  refine k_aload_n (i := 0) dX6_takeBack_0 (rfl : 0 + 1 = 1) rfl rfl ?_
  refine k_aload_n (i := 0) dX6_takeBack_1 (rfl : 1 + 1 = 2) rfl rfl ?_
  refine k_get 6 1 fg_X6_18 dX6_takeBack_2 (rfl : 2 + 3 = 5) (Nat.le_of_ble_eq_true rfl) rfl rfl ?_
  refine k_bipush (v := 8) dX6_takeBack_5 (rfl : 5 + 2 = 7) (by decide) ?_
  refine k_iadd dX6_takeBack_7 (rfl : 7 + 1 = 8) ?_
  refine k_iconst (v := 1) dX6_takeBack_8 (rfl : 8 + 1 = 9) (by decide) ?_
  refine k_isub dX6_takeBack_9 (rfl : 9 + 1 = 10) ?_
  refine k_bipush (v := 8) dX6_takeBack_10 (rfl : 10 + 2 = 12) (by decide) ?_
  refine k_irem dX6_takeBack_12 (rfl : 12 + 1 = 13) (by decide) ?_
  refine k_put 6 1 fp_X6_18 dX6_takeBack_13 (rfl : 13 + 3 = 16) (Nat.le_of_ble_eq_true rfl) rfl (Nat.le_of_ble_eq_true rfl) rfl rfl ?_
  refine kf_C0 (v := ((((x.2.1 0) + 8) - 1) - (((x.2.1 0) + 8) - 1) / 8 * 8)) rfl ?_
  rw [ee, rem8 (by omega)]
  have hl : (e + 7) % 8 < 8 := by omega
  refine k_aload_n (i := 1) dX6_takeBack_16 (rfl : 16 + 1 = 17) rfl rfl ?_
  refine k_aload_n (i := 0) dX6_takeBack_17 (rfl : 17 + 1 = 18) rfl rfl ?_
  refine k_get 6 0 fg_X6_11 dX6_takeBack_18 (rfl : 18 + 3 = 21) (Nat.le_of_ble_eq_true rfl) rfl rfl ?_
  refine k_aload_n (i := 0) dX6_takeBack_21 (rfl : 21 + 1 = 22) rfl rfl ?_
  refine k_get 6 1 fg_X6_18 dX6_takeBack_22 (rfl : 22 + 3 = 25) (Nat.le_of_ble_eq_true rfl) rfl rfl ?_
  refine k_rald (t := 4) (n := 8) (a := bs (3 + (e + 7) % 8)) (Or.inl rfl) dX6_takeBack_25 (rfl : 25 + 1 = 26) (Nat.le_of_ble_eq_true rfl) rfl (by show vp_in (nI ((e + 7) % 8)) 8; exact vp_in_nI hl (by omega)) (hist_at hl) ?_
  refine k_callVv1 cv_X6_22 ⟨Nat.le_of_ble_eq_true rfl, Nat.le_of_ble_eq_true rfl⟩ (m_X9_copyFrom (d := 0) (by omega) (show 3 + (e + 7) % 8 < 11 by omega) (by omega)) dX6_takeBack_26 (rfl : 26 + 3 = 29) (Nat.le_of_ble_eq_true rfl) rfl rfl rfl ⟨Nat.le_of_ble_eq_true rfl, Nat.le_of_ble_eq_true rfl⟩ ?_
  refine k_aload_n (i := 0) dX6_takeBack_29 (rfl : 29 + 1 = 30) rfl rfl ?_
  refine k_dup dX6_takeBack_30 (rfl : 30 + 1 = 31) rfl ?_
  refine k_get 6 2 fg_X6_26 dX6_takeBack_31 (rfl : 31 + 3 = 34) (Nat.le_of_ble_eq_true rfl) rfl rfl ?_
  refine k_iconst (v := 1) dX6_takeBack_34 (rfl : 34 + 1 = 35) (by decide) ?_
  refine k_isub dX6_takeBack_35 (rfl : 35 + 1 = 36) ?_
  refine k_put 6 2 fp_X6_26 dX6_takeBack_36 (rfl : 36 + 3 = 39) (Nat.le_of_ble_eq_true rfl) rfl (Nat.le_of_ble_eq_true rfl) rfl rfl ?_
  refine kf_C1 (v := (((kkC (kkS x 0 (nI ((e + 7) % 8))) 0 (x.1 (3 + (e + 7) % 8))).2.1 1) - 1)) rfl ?_
  refine k_vret rfl dX6_takeBack_39 (Nat.le_of_ble_eq_true rfl) (Nat.le_of_ble_eq_true rfl) ?_
  refine kRt_of rfl ?_
  unfold g_tak
  have e1 : (kkC (kkS x 0 (nI ((e + 7) % 8))) 0 (x.1 (3 + (e + 7) % 8))).2.1 1 = x.2.1 1 := rfl
  rw [e1, ec]
  obtain ⟨c, rfl⟩ : ∃ c', c = c' + 1 := ⟨c - 1, by omega⟩
  rw [nI_pred]
  rfl
