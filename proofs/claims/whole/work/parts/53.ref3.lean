theorem isIn_b {a b c : Int32} : f_X12_isIn a b c = 0 ∨ f_X12_isIn a b c = 1 := by
  unfold f_X12_isIn
  repeat' split
  all_goals first
    | exact Or.inl rfl
    | exact Or.inr rfl
theorem in_t {a : Int32} {n : Nat} (hn : n < 2 ^ 31) (h : ¬ f_X12_isIn a 0 (nI n) = 0) : ∃ k, k ≤ n ∧ a = nI k := by
  unfold f_X12_isIn at h
  by_cases h1 : a < 0
  · rw [if_pos h1] at h; exact absurd rfl h
  rw [if_neg h1] at h
  by_cases h2 : nI n < a
  · rw [if_pos h2] at h; exact absurd rfl h
  obtain ⟨k, hk, rfl⟩ := nI_of h1
  refine ⟨k, ?_, rfl⟩
  rcases Nat.lt_or_ge n k with q | q
  · exact absurd (nI_lt (a := n) (b := k) q hk) h2
  · exact q
theorem in_m {a v : Int32} {n : Nat} (hn : n ≤ 8) (hv : v = nI n) (h : ¬ f_X12_isIn a 0 (v - 1) = 0) : ∃ k, k < n ∧ a = nI k := by
  subst hv
  rcases Nat.eq_zero_or_pos n with q | q
  · subst q
    exfalso
    refine h ?_
    unfold f_X12_isIn
    by_cases h1 : a < 0
    · rw [if_pos h1]
    rw [if_neg h1]
    by_cases h2 : nI 0 - 1 < a
    · rw [if_pos h2]
    · exfalso
      simp only [Int32.lt_iff_toInt_lt] at h1 h2
      have e1 : (nI 0 - 1).toInt = -1 := by decide
      have e0 : (0 : Int32).toInt = 0 := by decide
      omega
  · obtain ⟨m, rfl⟩ : ∃ m, n = m + 1 := ⟨n - 1, by omega⟩
    rw [nI_pred] at h
    obtain ⟨k, hk, rfl⟩ := in_t (by omega) h
    exact ⟨k, by omega, rfl⟩
def f_X12_isThrow (x : kY) (a1 : Int32) : Int32 := if (f_X12_isIn a1 0 63) = 0 then 0 else 1
def g_X12_isThrow (x : kY) (a1 : Int32) : kY := if (f_X12_isIn a1 0 63) = 0 then (yS x 0 1) else (yS x 0 0)
set_option maxRecDepth 100000 in
set_option maxHeartbeats 4000000 in
theorem m_X12_isThrow {x : kY} {a9 : kH} {z9 : kE × kE} {a1 : Int32} : kMet kX12_isThrow false 0 0 [.ref 116, .int a1] (kTp a9 (kHr x z9)) 130 (kRt (some (.int (f_X12_isThrow x a1))) (kTp a9 (kHr (g_X12_isThrow x a1) z9)) 130) := by
  refine kMet.in (by decide) rfl rfl _ rfl ?_
  refine k_aload_n (i := 0) dX12_isThrow_0 (rfl : 0 + 1 = 1) rfl rfl ?_
  refine k_iload_n (i := 1) dX12_isThrow_1 (rfl : 1 + 1 = 2) rfl rfl ?_
  refine k_iconst (v := 0) dX12_isThrow_2 (rfl : 2 + 1 = 3) (by decide) ?_
  refine k_bipush (v := 63) dX12_isThrow_3 (rfl : 3 + 2 = 5) (by decide) ?_
  refine k_callSd3 cv_X12_70 ⟨Nat.le_of_ble_eq_true rfl, Nat.le_of_ble_eq_true rfl⟩ (m_X12_isIn) dX12_isThrow_5 (rfl : 5 + 3 = 8) rfl ⟨Nat.le_of_ble_eq_true rfl, Nat.le_of_ble_eq_true rfl⟩ ?_
  refine k_if_eq (tgt := 15) dX12_isThrow_8 (rfl : 8 + 3 = 11) (by decide) (fun b8 => ?_) (fun b8 => ?_)
  · refine k_iconst (v := 1) dX12_isThrow_15 (rfl : 15 + 1 = 16) (by decide) ?_
    refine k_put 12 0 fp_X12_50 dX12_isThrow_16 (rfl : 16 + 3 = 19) (Nat.le_of_ble_eq_true rfl) rfl (Nat.le_of_ble_eq_true rfl) rfl rfl ?_
    refine kf_Y0 (v := 1) rfl ?_
    refine k_aload_n (i := 0) dX12_isThrow_19 (rfl : 19 + 1 = 20) rfl rfl ?_
    refine k_get 12 0 fg_X12_50 dX12_isThrow_20 (rfl : 20 + 3 = 23) (Nat.le_of_ble_eq_true rfl) rfl rfl ?_
    refine k_if_ne (tgt := 30) dX12_isThrow_23 (rfl : 23 + 3 = 26) (by decide) (fun b23 => ?_) (fun b23 => by exact absurd b23 (by first | decide | (show ¬ (1 : Int32) = 0; decide)))
    refine k_iconst (v := 0) dX12_isThrow_30 (rfl : 30 + 1 = 31) (by decide) ?_
    refine k_iret rfl rfl dX12_isThrow_31 (Nat.le_of_ble_eq_true rfl) (Nat.le_of_ble_eq_true rfl) ?_
    exact kRt_of (congrArg (fun z => some (Value.int z)) (Eq.symm (if_pos (show (f_X12_isIn a1 0 63) = 0 from b8)))) (congrArg (fun z => kTp a9 (kHr z z9)) (Eq.symm (if_pos (show (f_X12_isIn a1 0 63) = 0 from b8))))
  · refine k_iconst (v := 0) dX12_isThrow_11 (rfl : 11 + 1 = 12) (by decide) ?_
    refine k_goto (tgt := 16) dX12_isThrow_12 (by decide) ?_
    refine k_put 12 0 fp_X12_50 dX12_isThrow_16 (rfl : 16 + 3 = 19) (Nat.le_of_ble_eq_true rfl) rfl (Nat.le_of_ble_eq_true rfl) rfl rfl ?_
    refine kf_Y0 (v := 0) rfl ?_
    refine k_aload_n (i := 0) dX12_isThrow_19 (rfl : 19 + 1 = 20) rfl rfl ?_
    refine k_get 12 0 fg_X12_50 dX12_isThrow_20 (rfl : 20 + 3 = 23) (Nat.le_of_ble_eq_true rfl) rfl rfl ?_
    refine k_if_ne (tgt := 30) dX12_isThrow_23 (rfl : 23 + 3 = 26) (by decide) (fun b23 => by exact absurd (by first | decide | (show (0 : Int32) = 0; decide)) b23) (fun b23 => ?_)
    refine k_iconst (v := 1) dX12_isThrow_26 (rfl : 26 + 1 = 27) (by decide) ?_
    refine k_goto (tgt := 31) dX12_isThrow_27 (by decide) ?_
    refine k_iret rfl rfl dX12_isThrow_31 (Nat.le_of_ble_eq_true rfl) (Nat.le_of_ble_eq_true rfl) ?_
    exact kRt_of (congrArg (fun z => some (Value.int z)) (Eq.symm (if_neg (show ¬ ((f_X12_isIn a1 0 63) = 0) from b8)))) (congrArg (fun z => kTp a9 (kHr z z9)) (Eq.symm (if_neg (show ¬ ((f_X12_isIn a1 0 63) = 0) from b8))))
def f_X12_isParty (v : Nat → Int32) (a1 : Int32) : Int32 := (f_X12_isIn a1 0 ((v 6) - 1))
set_option maxRecDepth 100000 in
set_option maxHeartbeats 4000000 in
theorem m_X12_isParty {x : kY} {a9 : kH} {z9 : kE × kE} {a1 : Int32} : kMet kX12_isParty false 0 0 [.ref 116, .int a1] (kTp a9 (kHr x z9)) 130 (kRt (some (.int (f_X12_isParty (x.2 0) a1))) (kTp a9 (kHr x z9)) 130) := by
  refine kMet.in (by decide) rfl rfl _ rfl ?_
  refine k_iload_n (i := 1) dX12_isParty_0 (rfl : 0 + 1 = 1) rfl rfl ?_
  refine k_iconst (v := 0) dX12_isParty_1 (rfl : 1 + 1 = 2) (by decide) ?_
  refine k_aload_n (i := 0) dX12_isParty_2 (rfl : 2 + 1 = 3) rfl rfl ?_
  refine k_get 12 7 fg_X12_16 dX12_isParty_3 (rfl : 3 + 3 = 6) (Nat.le_of_ble_eq_true rfl) rfl rfl ?_
  refine k_bipush (v := 6) dX12_isParty_6 (rfl : 6 + 2 = 8) (by decide) ?_
  refine k_ialdc (c := 6) (by decide) dX12_isParty_8 (rfl : 8 + 1 = 9) (Nat.le_of_ble_eq_true rfl) rfl (vp_in_iff.mpr (by decide)) ?_
  refine k_iconst (v := 1) dX12_isParty_9 (rfl : 9 + 1 = 10) (by decide) ?_
  refine k_isub dX12_isParty_10 (rfl : 10 + 1 = 11) ?_
  refine k_callSd3 cv_X12_70 ⟨Nat.le_of_ble_eq_true rfl, Nat.le_of_ble_eq_true rfl⟩ (m_X12_isIn) dX12_isParty_11 (rfl : 11 + 3 = 14) rfl ⟨Nat.le_of_ble_eq_true rfl, Nat.le_of_ble_eq_true rfl⟩ ?_
  refine k_iret rfl (nar_b isIn_b) dX12_isParty_14 (Nat.le_of_ble_eq_true rfl) (Nat.le_of_ble_eq_true rfl) ?_
  exact kRt_of rfl rfl
def f_X12_isPlea (v : Nat → Int32) (a1 : Int32) : Int32 := (f_X12_isIn a1 0 ((v 7) - 1))
set_option maxRecDepth 100000 in
set_option maxHeartbeats 4000000 in
theorem m_X12_isPlea {x : kY} {a9 : kH} {z9 : kE × kE} {a1 : Int32} : kMet kX12_isPlea false 0 0 [.ref 116, .int a1] (kTp a9 (kHr x z9)) 130 (kRt (some (.int (f_X12_isPlea (x.2 0) a1))) (kTp a9 (kHr x z9)) 130) := by
  refine kMet.in (by decide) rfl rfl _ rfl ?_
  refine k_iload_n (i := 1) dX12_isPlea_0 (rfl : 0 + 1 = 1) rfl rfl ?_
  refine k_iconst (v := 0) dX12_isPlea_1 (rfl : 1 + 1 = 2) (by decide) ?_
  refine k_aload_n (i := 0) dX12_isPlea_2 (rfl : 2 + 1 = 3) rfl rfl ?_
  refine k_get 12 7 fg_X12_16 dX12_isPlea_3 (rfl : 3 + 3 = 6) (Nat.le_of_ble_eq_true rfl) rfl rfl ?_
  refine k_bipush (v := 7) dX12_isPlea_6 (rfl : 6 + 2 = 8) (by decide) ?_
  refine k_ialdc (c := 7) (by decide) dX12_isPlea_8 (rfl : 8 + 1 = 9) (Nat.le_of_ble_eq_true rfl) rfl (vp_in_iff.mpr (by decide)) ?_
  refine k_iconst (v := 1) dX12_isPlea_9 (rfl : 9 + 1 = 10) (by decide) ?_
  refine k_isub dX12_isPlea_10 (rfl : 10 + 1 = 11) ?_
  refine k_callSd3 cv_X12_70 ⟨Nat.le_of_ble_eq_true rfl, Nat.le_of_ble_eq_true rfl⟩ (m_X12_isIn) dX12_isPlea_11 (rfl : 11 + 3 = 14) rfl ⟨Nat.le_of_ble_eq_true rfl, Nat.le_of_ble_eq_true rfl⟩ ?_
  refine k_iret rfl (nar_b isIn_b) dX12_isPlea_14 (Nat.le_of_ble_eq_true rfl) (Nat.le_of_ble_eq_true rfl) ?_
  exact kRt_of rfl rfl
theorem ip_8 {v : Nat → Int32} {a : Int32} (hv : kMv v) (h : ¬ f_X12_isParty v a = 0) : kP8 a := by
  obtain ⟨n, hn, e⟩ := hv.1
  obtain ⟨k, hk, rfl⟩ := in_m hn e h
  exact ⟨k, by omega, rfl⟩
theorem il_8 {v : Nat → Int32} {a : Int32} (hv : kMv v) (h : ¬ f_X12_isPlea v a = 0) : kP8 a := by
  obtain ⟨n, hn, e⟩ := hv.2.1
  obtain ⟨k, hk, rfl⟩ := in_m hn e h
  exact ⟨k, by omega, rfl⟩
theorem ith_c {x : kY} {a : Int32} (h : ¬ f_X12_isThrow x a = 0) : kC64 a := by
  unfold f_X12_isThrow at h
  by_cases h1 : f_X12_isIn a 0 63 = 0
  · rw [if_pos h1] at h
    exact absurd rfl h
  · obtain ⟨k, hk, e⟩ := in_t (n := 63) (by decide) h1
    exact ⟨k, by omega, e⟩
theorem ith_v {x : kY} {a : Int32} : (g_X12_isThrow x a).2 = x.2 := by
  unfold g_X12_isThrow
  split <;> rfl
theorem fl_self {x : kY} {a : Int32} (hn : kC64 a) (hv : kMv (x.2 0)) : f_X12_flies x a = nI (Int32.toNatClampNeg (f_X12_flies x a)) ∧ Int32.toNatClampNeg (f_X12_flies x a) ≤ 35 := by
  obtain ⟨e1, n, hn1, q1, q2⟩ := flies_ok hn hv
  rw [q2, nI_clamp (by omega)]
  exact ⟨rfl, hn1⟩
def f_X12_flightLength (x : kY) (a1 : Int32) : Int32 := if (f_X12_isThrow x a1) = 0 then 0 else (f_X12_flies (g_X12_isThrow x a1) a1)
def g_X12_flightLength (x : kY) (a1 : Int32) : kY := if (f_X12_isThrow x a1) = 0 then (g_X12_isThrow x a1) else (g_X12_flies (g_X12_isThrow x a1) a1)
set_option maxRecDepth 100000 in
set_option maxHeartbeats 4000000 in
theorem m_X12_flightLength {x : kY} {a9 : kH} {z9 : kE × kE} {a1 : Int32} (hv : kMv (x.2 0)) : kMet kX12_flightLength false 0 0 [.ref 116, .int a1] (kTp a9 (kHr x z9)) 130 (kRt (some (.int (f_X12_flightLength x a1))) (kTp a9 (kHr (g_X12_flightLength x a1) z9)) 130) := by
  refine kMet.in (by decide) rfl rfl _ rfl ?_
  refine k_aload_n (i := 0) dX12_flightLength_0 (rfl : 0 + 1 = 1) rfl rfl ?_
  refine k_iload_n (i := 1) dX12_flightLength_1 (rfl : 1 + 1 = 2) rfl rfl ?_
  refine k_callVd1 cv_X12_159 ⟨Nat.le_of_ble_eq_true rfl, Nat.le_of_ble_eq_true rfl⟩ (m_X12_isThrow) dX12_flightLength_2 (rfl : 2 + 3 = 5) (Nat.le_of_ble_eq_true rfl) rfl rfl rfl ⟨Nat.le_of_ble_eq_true rfl, Nat.le_of_ble_eq_true rfl⟩ ?_
  refine k_if_eq (tgt := 16) dX12_flightLength_5 (rfl : 5 + 3 = 8) (by decide) (fun b5 => ?_) (fun b5 => ?_)
  · refine k_iconst (v := 0) dX12_flightLength_16 (rfl : 16 + 1 = 17) (by decide) ?_
    refine k_iret rfl rfl dX12_flightLength_17 (Nat.le_of_ble_eq_true rfl) (Nat.le_of_ble_eq_true rfl) ?_
    exact kRt_of (congrArg (fun z => some (Value.int z)) (Eq.symm (if_pos (show (f_X12_isThrow x a1) = 0 from b5)))) (congrArg (fun z => kTp a9 (kHr z z9)) (Eq.symm (if_pos (show (f_X12_isThrow x a1) = 0 from b5))))
  · refine k_aload_n (i := 0) dX12_flightLength_8 (rfl : 8 + 1 = 9) rfl rfl ?_
    refine k_iload_n (i := 1) dX12_flightLength_9 (rfl : 9 + 1 = 10) rfl rfl ?_
    refine k_callVd1 cv_X12_162 ⟨Nat.le_of_ble_eq_true rfl, Nat.le_of_ble_eq_true rfl⟩ (m_X12_flies (ith_c b5) (by rw [ith_v]; exact hv)) dX12_flightLength_10 (rfl : 10 + 3 = 13) (Nat.le_of_ble_eq_true rfl) rfl rfl rfl ⟨Nat.le_of_ble_eq_true rfl, Nat.le_of_ble_eq_true rfl⟩ ?_
    refine k_goto (tgt := 17) dX12_flightLength_13 (by decide) ?_
    refine k_iret rfl rfl dX12_flightLength_17 (Nat.le_of_ble_eq_true rfl) (Nat.le_of_ble_eq_true rfl) ?_
    exact kRt_of (congrArg (fun z => some (Value.int z)) (Eq.symm (if_neg (show ¬ ((f_X12_isThrow x a1) = 0) from b5)))) (congrArg (fun z => kTp a9 (kHr z z9)) (Eq.symm (if_neg (show ¬ ((f_X12_isThrow x a1) = 0) from b5))))
theorem isf_in {a : Int32} {x : kY} {b : Int32} (hn : kC64 b) (hv : kMv (x.2 0)) (h : ¬ f_X12_isIn a 0 (f_X12_flies x b) = 0) : vp_in a 40 := by
  obtain ⟨e1, n, hn1, q1, q2⟩ := flies_ok hn hv
  rw [q2] at h
  obtain ⟨k, hk, rfl⟩ := in_t (by omega) h
  exact vp_in_nI (by omega) (by omega)
def f_X12_flightCell (x : kY) (a1 : Int32) (a2 : Int32) : Int32 := if (f_X12_isThrow x a1) = 0 then 0 else (if (f_X12_isIn a2 0 (f_X12_flies (g_X12_isThrow x a1) a1)) = 0 then (f_X12_fail (g_X12_flies (g_X12_isThrow x a1) a1) 2) else (((g_X12_flies (g_X12_isThrow x a1) a1).2 4) (Int32.toNatClampNeg a2)))
def g_X12_flightCell (x : kY) (a1 : Int32) (a2 : Int32) : kY := if (f_X12_isThrow x a1) = 0 then (g_X12_isThrow x a1) else (if (f_X12_isIn a2 0 (f_X12_flies (g_X12_isThrow x a1) a1)) = 0 then (g_X12_fail (g_X12_flies (g_X12_isThrow x a1) a1) 2) else (g_X12_flies (g_X12_isThrow x a1) a1))
set_option maxRecDepth 100000 in
set_option maxHeartbeats 4000000 in
theorem m_X12_flightCell {x : kY} {a9 : kH} {z9 : kE × kE} {a1 : Int32} {a2 : Int32} (hv : kMv (x.2 0)) : kMet kX12_flightCell false 0 0 [.ref 116, .int a1, .int a2] (kTp a9 (kHr x z9)) 130 (kRt (some (.int (f_X12_flightCell x a1 a2))) (kTp a9 (kHr (g_X12_flightCell x a1 a2) z9)) 130) := by
  refine kMet.in (by decide) rfl rfl _ rfl ?_
  refine k_aload_n (i := 0) dX12_flightCell_0 (rfl : 0 + 1 = 1) rfl rfl ?_
  refine k_iload_n (i := 1) dX12_flightCell_1 (rfl : 1 + 1 = 2) rfl rfl ?_
  refine k_callVd1 cv_X12_159 ⟨Nat.le_of_ble_eq_true rfl, Nat.le_of_ble_eq_true rfl⟩ (m_X12_isThrow) dX12_flightCell_2 (rfl : 2 + 3 = 5) (Nat.le_of_ble_eq_true rfl) rfl rfl rfl ⟨Nat.le_of_ble_eq_true rfl, Nat.le_of_ble_eq_true rfl⟩ ?_
  refine k_if_ne (tgt := 10) dX12_flightCell_5 (rfl : 5 + 3 = 8) (by decide) (fun b5 => ?_) (fun b5 => ?_)
  · refine k_iload_n (i := 2) dX12_flightCell_10 (rfl : 10 + 1 = 11) rfl rfl ?_
    refine k_iconst (v := 0) dX12_flightCell_11 (rfl : 11 + 1 = 12) (by decide) ?_
    refine k_aload_n (i := 0) dX12_flightCell_12 (rfl : 12 + 1 = 13) rfl rfl ?_
    refine k_iload_n (i := 1) dX12_flightCell_13 (rfl : 13 + 1 = 14) rfl rfl ?_
    refine k_callVd1 cv_X12_162 ⟨Nat.le_of_ble_eq_true rfl, Nat.le_of_ble_eq_true rfl⟩ (m_X12_flies (ith_c b5) (by rw [ith_v]; exact hv)) dX12_flightCell_14 (rfl : 14 + 3 = 17) (Nat.le_of_ble_eq_true rfl) rfl rfl rfl ⟨Nat.le_of_ble_eq_true rfl, Nat.le_of_ble_eq_true rfl⟩ ?_
    refine k_callSd3 cv_X12_70 ⟨Nat.le_of_ble_eq_true rfl, Nat.le_of_ble_eq_true rfl⟩ (m_X12_isIn) dX12_flightCell_17 (rfl : 17 + 3 = 20) rfl ⟨Nat.le_of_ble_eq_true rfl, Nat.le_of_ble_eq_true rfl⟩ ?_
    refine k_if_eq (tgt := 32) dX12_flightCell_20 (rfl : 20 + 3 = 23) (by decide) (fun b20 => ?_) (fun b20 => ?_)
    · refine k_aload_n (i := 0) dX12_flightCell_32 (rfl : 32 + 1 = 33) rfl rfl ?_
      refine k_iconst (v := 2) dX12_flightCell_33 (rfl : 33 + 1 = 34) (by decide) ?_
      refine k_callVd1 cv_X12_59 ⟨Nat.le_of_ble_eq_true rfl, Nat.le_of_ble_eq_true rfl⟩ (m_X12_fail) dX12_flightCell_34 (rfl : 34 + 3 = 37) (Nat.le_of_ble_eq_true rfl) rfl rfl rfl ⟨Nat.le_of_ble_eq_true rfl, Nat.le_of_ble_eq_true rfl⟩ ?_
      refine k_iret rfl rfl dX12_flightCell_37 (Nat.le_of_ble_eq_true rfl) (Nat.le_of_ble_eq_true rfl) ?_
      exact kRt_of (congrArg (fun z => some (Value.int z)) (Eq.symm (Eq.trans (if_neg (show ¬ ((f_X12_isThrow x a1) = 0) from b5)) (if_pos (show (f_X12_isIn a2 0 (f_X12_flies (g_X12_isThrow x a1) a1)) = 0 from b20))))) (congrArg (fun z => kTp a9 (kHr z z9)) (Eq.symm (Eq.trans (if_neg (show ¬ ((f_X12_isThrow x a1) = 0) from b5)) (if_pos (show (f_X12_isIn a2 0 (f_X12_flies (g_X12_isThrow x a1) a1)) = 0 from b20)))))
    · refine k_aload_n (i := 0) dX12_flightCell_23 (rfl : 23 + 1 = 24) rfl rfl ?_
      refine k_get 12 11 fg_X12_29 dX12_flightCell_24 (rfl : 24 + 3 = 27) (Nat.le_of_ble_eq_true rfl) rfl rfl ?_
      refine k_iload_n (i := 2) dX12_flightCell_27 (rfl : 27 + 1 = 28) rfl rfl ?_
      refine k_iald dX12_flightCell_28 (rfl : 28 + 1 = 29) (Nat.le_of_ble_eq_true rfl) rfl (isf_in (ith_c b5) (by rw [ith_v]; exact hv) b20) ?_
      refine k_goto (tgt := 37) dX12_flightCell_29 (by decide) ?_
      refine k_iret rfl rfl dX12_flightCell_37 (Nat.le_of_ble_eq_true rfl) (Nat.le_of_ble_eq_true rfl) ?_
      exact kRt_of (congrArg (fun z => some (Value.int z)) (Eq.symm (Eq.trans (if_neg (show ¬ ((f_X12_isThrow x a1) = 0) from b5)) (if_neg (show ¬ ((f_X12_isIn a2 0 (f_X12_flies (g_X12_isThrow x a1) a1)) = 0) from b20))))) (congrArg (fun z => kTp a9 (kHr z z9)) (Eq.symm (Eq.trans (if_neg (show ¬ ((f_X12_isThrow x a1) = 0) from b5)) (if_neg (show ¬ ((f_X12_isIn a2 0 (f_X12_flies (g_X12_isThrow x a1) a1)) = 0) from b20)))))
  · refine k_iconst (v := 0) dX12_flightCell_8 (rfl : 8 + 1 = 9) (by decide) ?_
    refine k_iret rfl rfl dX12_flightCell_9 (Nat.le_of_ble_eq_true rfl) (Nat.le_of_ble_eq_true rfl) ?_
    exact kRt_of (congrArg (fun z => some (Value.int z)) (Eq.symm (if_pos (show (f_X12_isThrow x a1) = 0 from b5)))) (congrArg (fun z => kTp a9 (kHr z z9)) (Eq.symm (if_pos (show (f_X12_isThrow x a1) = 0 from b5))))
/-- where the flight ends -/
theorem eb_in {x : kY} (h : ∃ n, n ≤ 35 ∧ x.1 7 = nI n) : vp_in (x.1 7) 40 := by
  obtain ⟨n, hn, e⟩ := h
  rw [e]
  exact vp_in_nI (by omega) (by omega)
def f_X12_endsBy (x : kY)  : Int32 := if (x.1 8) = 0 then (if ((x.2 4) (Int32.toNatClampNeg (x.1 7))) = ((x.2 0) 3) then 99 else 103) else 116
set_option maxRecDepth 100000 in
set_option maxHeartbeats 4000000 in
theorem m_X12_endsBy {x : kY} {a9 : kH} {z9 : kE × kE} (hf : ∃ n, n ≤ 35 ∧ x.1 7 = nI n) : kMet kX12_endsBy false 0 0 [.ref 116] (kTp a9 (kHr x z9)) 130 (kRt (some (.int (f_X12_endsBy x ))) (kTp a9 (kHr x z9)) 130) := by
  refine kMet.in (by decide) rfl rfl _ rfl ?_
  refine k_aload_n (i := 0) dX12_endsBy_0 (rfl : 0 + 1 = 1) rfl rfl ?_
  refine k_get 12 14 fg_X12_149 dX12_endsBy_1 (rfl : 1 + 3 = 4) (Nat.le_of_ble_eq_true rfl) rfl rfl ?_
  refine k_if_eq (tgt := 12) dX12_endsBy_4 (rfl : 4 + 3 = 7) (by decide) (fun b4 => ?_) (fun b4 => ?_)
  · refine k_aload_n (i := 0) dX12_endsBy_12 (rfl : 12 + 1 = 13) rfl rfl ?_
    refine k_get 12 11 fg_X12_29 dX12_endsBy_13 (rfl : 13 + 3 = 16) (Nat.le_of_ble_eq_true rfl) rfl rfl ?_
    refine k_aload_n (i := 0) dX12_endsBy_16 (rfl : 16 + 1 = 17) rfl rfl ?_
    refine k_get 12 13 fg_X12_146 dX12_endsBy_17 (rfl : 17 + 3 = 20) (Nat.le_of_ble_eq_true rfl) rfl rfl ?_
    refine k_iald dX12_endsBy_20 (rfl : 20 + 1 = 21) (Nat.le_of_ble_eq_true rfl) rfl (eb_in hf) ?_
    refine k_aload_n (i := 0) dX12_endsBy_21 (rfl : 21 + 1 = 22) rfl rfl ?_
    refine k_get 12 7 fg_X12_16 dX12_endsBy_22 (rfl : 22 + 3 = 25) (Nat.le_of_ble_eq_true rfl) rfl rfl ?_
    refine k_iconst (v := 3) dX12_endsBy_25 (rfl : 25 + 1 = 26) (by decide) ?_
    refine k_ialdc (c := 3) (by decide) dX12_endsBy_26 (rfl : 26 + 1 = 27) (Nat.le_of_ble_eq_true rfl) rfl (vp_in_iff.mpr (by decide)) ?_
    refine k_icmp_ne (tgt := 35) dX12_endsBy_27 (rfl : 27 + 3 = 30) (by decide) (fun b27 => ?_) (fun b27 => ?_)
    · refine k_bipush (v := 103) dX12_endsBy_35 (rfl : 35 + 2 = 37) (by decide) ?_
      refine k_iret rfl rfl dX12_endsBy_37 (Nat.le_of_ble_eq_true rfl) (Nat.le_of_ble_eq_true rfl) ?_
      exact kRt_of (congrArg (fun z => some (Value.int z)) (Eq.symm (Eq.trans (if_pos (show (x.1 8) = 0 from b4)) (if_neg (show ¬ (((x.2 4) (Int32.toNatClampNeg (x.1 7))) = ((x.2 0) 3)) from b27))))) rfl
    · refine k_bipush (v := 99) dX12_endsBy_30 (rfl : 30 + 2 = 32) (by decide) ?_
      refine k_goto (tgt := 37) dX12_endsBy_32 (by decide) ?_
      refine k_iret rfl rfl dX12_endsBy_37 (Nat.le_of_ble_eq_true rfl) (Nat.le_of_ble_eq_true rfl) ?_
      exact kRt_of (congrArg (fun z => some (Value.int z)) (Eq.symm (Eq.trans (if_pos (show (x.1 8) = 0 from b4)) (if_pos (show ((x.2 4) (Int32.toNatClampNeg (x.1 7))) = ((x.2 0) 3) from b27))))) rfl
  · refine k_bipush (v := 116) dX12_endsBy_7 (rfl : 7 + 2 = 9) (by decide) ?_
    refine k_goto (tgt := 37) dX12_endsBy_9 (by decide) ?_
    refine k_iret rfl rfl dX12_endsBy_37 (Nat.le_of_ble_eq_true rfl) (Nat.le_of_ble_eq_true rfl) ?_
    exact kRt_of (congrArg (fun z => some (Value.int z)) (Eq.symm (if_neg (show ¬ ((x.1 8) = 0) from b4)))) rfl
theorem eb_nar {x : kY} : narrow .char (.int ((f_X12_endsBy x).toUInt32 % 65536).toInt32) = .int ((f_X12_endsBy x).toUInt32 % 65536).toInt32 := by
  unfold f_X12_endsBy
  repeat' split
  all_goals rfl
def f_X12_flightEnd (x : kY) (a1 : Int32) : Int32 := if (f_X12_isThrow x a1) = 0 then 97 else ((Int32.toUInt32 (f_X12_endsBy (g_X12_flies (g_X12_isThrow x a1) a1) ) % 65536).toInt32)
def g_X12_flightEnd (x : kY) (a1 : Int32) : kY := if (f_X12_isThrow x a1) = 0 then (g_X12_isThrow x a1) else (g_X12_flies (g_X12_isThrow x a1) a1)
set_option maxRecDepth 100000 in
set_option maxHeartbeats 4000000 in
theorem m_X12_flightEnd {x : kY} {a9 : kH} {z9 : kE × kE} {a1 : Int32} (hv : kMv (x.2 0)) : kMet kX12_flightEnd false 0 0 [.ref 116, .int a1] (kTp a9 (kHr x z9)) 130 (kRt (some (.int (f_X12_flightEnd x a1))) (kTp a9 (kHr (g_X12_flightEnd x a1) z9)) 130) := by
  refine kMet.in (by decide) rfl rfl _ rfl ?_
  refine k_aload_n (i := 0) dX12_flightEnd_0 (rfl : 0 + 1 = 1) rfl rfl ?_
  refine k_iload_n (i := 1) dX12_flightEnd_1 (rfl : 1 + 1 = 2) rfl rfl ?_
  refine k_callVd1 cv_X12_159 ⟨Nat.le_of_ble_eq_true rfl, Nat.le_of_ble_eq_true rfl⟩ (m_X12_isThrow) dX12_flightEnd_2 (rfl : 2 + 3 = 5) (Nat.le_of_ble_eq_true rfl) rfl rfl rfl ⟨Nat.le_of_ble_eq_true rfl, Nat.le_of_ble_eq_true rfl⟩ ?_
  refine k_if_ne (tgt := 11) dX12_flightEnd_5 (rfl : 5 + 3 = 8) (by decide) (fun b5 => ?_) (fun b5 => ?_)
  · refine k_aload_n (i := 0) dX12_flightEnd_11 (rfl : 11 + 1 = 12) rfl rfl ?_
    refine k_iload_n (i := 1) dX12_flightEnd_12 (rfl : 12 + 1 = 13) rfl rfl ?_
    refine k_callVd1 cv_X12_162 ⟨Nat.le_of_ble_eq_true rfl, Nat.le_of_ble_eq_true rfl⟩ (m_X12_flies (ith_c b5) (by rw [ith_v]; exact hv)) dX12_flightEnd_13 (rfl : 13 + 3 = 16) (Nat.le_of_ble_eq_true rfl) rfl rfl rfl ⟨Nat.le_of_ble_eq_true rfl, Nat.le_of_ble_eq_true rfl⟩ ?_
    refine k_istore_n (i := 2) dX12_flightEnd_16 (rfl : 16 + 1 = 17) rfl (Nat.le_of_ble_eq_true rfl) ?_
    refine k_ls (ls2 := [.ref 116, .int a1, .int (f_X12_flies (g_X12_isThrow x a1) a1)]) rfl ?_
    refine k_aload_n (i := 0) dX12_flightEnd_17 (rfl : 17 + 1 = 18) rfl rfl ?_
    refine k_callVd0 cv_X12_165 ⟨Nat.le_of_ble_eq_true rfl, Nat.le_of_ble_eq_true rfl⟩ (m_X12_endsBy (by obtain ⟨e1, n, h1, h2, h3⟩ := flies_ok (ith_c b5) (show kMv ((g_X12_isThrow x a1).2 0) by rw [ith_v]; exact hv); exact ⟨n, h1, h2⟩)) dX12_flightEnd_18 (rfl : 18 + 3 = 21) (Nat.le_of_ble_eq_true rfl) rfl rfl rfl ⟨Nat.le_of_ble_eq_true rfl, Nat.le_of_ble_eq_true rfl⟩ ?_
    refine k_i2c dX12_flightEnd_21 (rfl : 21 + 1 = 22) ?_
    refine k_iret rfl eb_nar dX12_flightEnd_22 (Nat.le_of_ble_eq_true rfl) (Nat.le_of_ble_eq_true rfl) ?_
    exact kRt_of (congrArg (fun z => some (Value.int z)) (Eq.symm (if_neg (show ¬ ((f_X12_isThrow x a1) = 0) from b5)))) (congrArg (fun z => kTp a9 (kHr z z9)) (Eq.symm (if_neg (show ¬ ((f_X12_isThrow x a1) = 0) from b5))))
  · refine k_bipush (v := 97) dX12_flightEnd_8 (rfl : 8 + 2 = 10) (by decide) ?_
    refine k_iret rfl rfl dX12_flightEnd_10 (Nat.le_of_ble_eq_true rfl) (Nat.le_of_ble_eq_true rfl) ?_
    exact kRt_of (congrArg (fun z => some (Value.int z)) (Eq.symm (if_pos (show (f_X12_isThrow x a1) = 0 from b5)))) (congrArg (fun z => kTp a9 (kHr z z9)) (Eq.symm (if_pos (show (f_X12_isThrow x a1) = 0 from b5))))
def fbL (x : kY) (n : Nat) : Nat → Nat → Int64 → Int64
  | 0, j, s => s
  | k + 1, j, s => (fbL x n k (j + 1) (s ||| (1 <<< (Int32.toInt64 ((x.2 4) (Int32.toNatClampNeg (nI j))) &&& 63))))
set_option maxRecDepth 100000 in
set_option maxHeartbeats 4000000 in
theorem lfbL {x : kY} {a9 : kH} {z9 : kE × kE} {Q : kQ} {n : Nat} {a : Int32}  (h35 : n ≤ 35) : ∀ (k : Nat) (j : Nat) (s : Int64), j + k = (n + 1) → (∀ (z5 : Value), kEv kX12_flightBits (kRm kX12_flightBits 0 0) (kFm false 0 0 (Q)) false 47 [.ref 116, .int a, .long (fbL x n k j s), .retAddr 0, .int (nI n), z5] [] (kTp a9 (kHr x z9)) 130 0 0) → kEv kX12_flightBits (kRm kX12_flightBits 0 0) (kFm false 0 0 (Q)) false 22 [.ref 116, .int a, .long s, .retAddr 0, .int (nI n), .int (nI j)] [] (kTp a9 (kHr x z9)) 130 0 0 := by
  intro k
  induction k with
  | zero =>
    intro j s hj hx
    refine k_iload (i := 5) dX12_flightBits_22 (rfl : 22 + 2 = 24) rfl ?_
    refine k_iload (i := 4) dX12_flightBits_24 (rfl : 24 + 2 = 26) rfl ?_
    refine k_icmp_gt (tgt := 47) dX12_flightBits_26 (rfl : 26 + 3 = 29) (by decide) (fun b26 => ?_) (fun b26 => by exact absurd (nI_lt (a := n) (b := j) (by omega) (by omega)) b26)
    rw [fbL] at hx
    exact hx _
  | succ k ih =>
    intro j s hj hx
    refine k_iload (i := 5) dX12_flightBits_22 (rfl : 22 + 2 = 24) rfl ?_
    refine k_iload (i := 4) dX12_flightBits_24 (rfl : 24 + 2 = 26) rfl ?_
    refine k_icmp_gt (tgt := 47) dX12_flightBits_26 (rfl : 26 + 3 = 29) (by decide) (fun b26 => by exact absurd b26 (nI_nlt (a := n) (b := j) (by omega) (by omega))) (fun b26 => ?_)
    refine k_lload_n (i := 2) dX12_flightBits_29 (rfl : 29 + 1 = 30) rfl rfl ?_
    refine k_lconst (v := 1) dX12_flightBits_30 (rfl : 30 + 1 = 31) (by decide) ?_
    refine k_aload_n (i := 0) dX12_flightBits_31 (rfl : 31 + 1 = 32) rfl rfl ?_
    refine k_get 12 11 fg_X12_29 dX12_flightBits_32 (rfl : 32 + 3 = 35) (Nat.le_of_ble_eq_true rfl) rfl rfl ?_
    refine k_iload (i := 5) dX12_flightBits_35 (rfl : 35 + 2 = 37) rfl ?_
    refine k_iald dX12_flightBits_37 (rfl : 37 + 1 = 38) (Nat.le_of_ble_eq_true rfl) rfl (vp_in_nI (by omega) (by omega)) ?_
    refine k_lshl dX12_flightBits_38 (rfl : 38 + 1 = 39) ?_
    refine k_lor dX12_flightBits_39 (rfl : 39 + 1 = 40) ?_
    refine k_lstore_n (i := 2) dX12_flightBits_40 (rfl : 40 + 1 = 41) rfl (Nat.le_of_ble_eq_true rfl) ?_
    refine k_ls (ls2 := [.ref 116, .int a, .long (s ||| (1 <<< (Int32.toInt64 ((x.2 4) (Int32.toNatClampNeg (nI j))) &&& 63))), .retAddr 0, .int (nI n), .int (nI j)]) rfl ?_
    refine k_iinc (i := 5) (v := (nI (j + 1))) dX12_flightBits_41 (rfl : 41 + 3 = 44) rfl (Nat.le_of_ble_eq_true rfl) (nI_1 _) ?_
    refine k_ls (ls2 := [.ref 116, .int a, .long (s ||| (1 <<< (Int32.toInt64 ((x.2 4) (Int32.toNatClampNeg (nI j))) &&& 63))), .retAddr 0, .int (nI n), .int (nI (j + 1))]) rfl ?_
    refine k_goto (tgt := 22) dX12_flightBits_44 (by decide) ?_
    rw [fbL] at hx
    exact ih (j + 1) (s ||| (1 <<< (Int32.toInt64 ((x.2 4) (Int32.toNatClampNeg (nI j))) &&& 63))) (by omega) hx
def f_X12_flightBits (x : kY) (a1 : Int32) : Int64 := if (f_X12_isThrow x a1) = 0 then 0 else (fbL (g_X12_flies (g_X12_isThrow x a1) a1) (Int32.toNatClampNeg (f_X12_flies (g_X12_isThrow x a1) a1)) (Int32.toNatClampNeg (f_X12_flies (g_X12_isThrow x a1) a1)) 1 0)
def g_X12_flightBits (x : kY) (a1 : Int32) : kY := if (f_X12_isThrow x a1) = 0 then (g_X12_isThrow x a1) else (g_X12_flies (g_X12_isThrow x a1) a1)
set_option maxRecDepth 100000 in
set_option maxHeartbeats 4000000 in
theorem m_X12_flightBits {x : kY} {a9 : kH} {z9 : kE × kE} {a1 : Int32} (hv : kMv (x.2 0)) : kMet kX12_flightBits false 0 0 [.ref 116, .int a1] (kTp a9 (kHr x z9)) 130 (kRt (some (.long (f_X12_flightBits x a1))) (kTp a9 (kHr (g_X12_flightBits x a1) z9)) 130) := by
  refine kMet.in (by decide) rfl rfl _ rfl ?_
  refine k_lconst (v := 0) dX12_flightBits_0 (rfl : 0 + 1 = 1) (by decide) ?_
  refine k_lstore_n (i := 2) dX12_flightBits_1 (rfl : 1 + 1 = 2) rfl (Nat.le_of_ble_eq_true rfl) ?_
  refine k_ls (ls2 := [.ref 116, .int a1, .long 0, .retAddr 0, .retAddr 0, .retAddr 0]) rfl ?_
  refine k_aload_n (i := 0) dX12_flightBits_2 (rfl : 2 + 1 = 3) rfl rfl ?_
  refine k_iload_n (i := 1) dX12_flightBits_3 (rfl : 3 + 1 = 4) rfl rfl ?_
  refine k_callVd1 cv_X12_159 ⟨Nat.le_of_ble_eq_true rfl, Nat.le_of_ble_eq_true rfl⟩ (m_X12_isThrow) dX12_flightBits_4 (rfl : 4 + 3 = 7) (Nat.le_of_ble_eq_true rfl) rfl rfl rfl ⟨Nat.le_of_ble_eq_true rfl, Nat.le_of_ble_eq_true rfl⟩ ?_
  refine k_if_ne (tgt := 12) dX12_flightBits_7 (rfl : 7 + 3 = 10) (by decide) (fun b7 => ?_) (fun b7 => ?_)
  · refine k_aload_n (i := 0) dX12_flightBits_12 (rfl : 12 + 1 = 13) rfl rfl ?_
    refine k_iload_n (i := 1) dX12_flightBits_13 (rfl : 13 + 1 = 14) rfl rfl ?_
    refine k_callVd1 cv_X12_162 ⟨Nat.le_of_ble_eq_true rfl, Nat.le_of_ble_eq_true rfl⟩ (m_X12_flies (ith_c b7) (by rw [ith_v]; exact hv)) dX12_flightBits_14 (rfl : 14 + 3 = 17) (Nat.le_of_ble_eq_true rfl) rfl rfl rfl ⟨Nat.le_of_ble_eq_true rfl, Nat.le_of_ble_eq_true rfl⟩ ?_
    refine k_istore (i := 4) dX12_flightBits_17 (rfl : 17 + 2 = 19) (Nat.le_of_ble_eq_true rfl) ?_
    refine k_ls (ls2 := [.ref 116, .int a1, .long 0, .retAddr 0, .int (f_X12_flies (g_X12_isThrow x a1) a1), .retAddr 0]) rfl ?_
    refine k_iconst (v := 1) dX12_flightBits_19 (rfl : 19 + 1 = 20) (by decide) ?_
    refine k_istore (i := 5) dX12_flightBits_20 (rfl : 20 + 2 = 22) (Nat.le_of_ble_eq_true rfl) ?_
    refine k_ls (ls2 := [.ref 116, .int a1, .long 0, .retAddr 0, .int (f_X12_flies (g_X12_isThrow x a1) a1), .int 1]) rfl ?_
    refine k_ls (ls2 := [.ref 116, .int a1, .long 0, .retAddr 0, .int (nI (Int32.toNatClampNeg (f_X12_flies (g_X12_isThrow x a1) a1))), .int 1]) (by rw [← (fl_self (ith_c b7) (show kMv ((g_X12_isThrow x a1).2 0) by rw [ith_v]; exact hv)).1]) ?_
    refine lfbL (n := (Int32.toNatClampNeg (f_X12_flies (g_X12_isThrow x a1) a1))) (fl_self (ith_c b7) (show kMv ((g_X12_isThrow x a1).2 0) by rw [ith_v]; exact hv)).2 (Int32.toNatClampNeg (f_X12_flies (g_X12_isThrow x a1) a1)) 1 0 (by omega) (fun z5 => ?_)
    generalize hw22 : (fbL (g_X12_flies (g_X12_isThrow x a1) a1) (Int32.toNatClampNeg (f_X12_flies (g_X12_isThrow x a1) a1)) (Int32.toNatClampNeg (f_X12_flies (g_X12_isThrow x a1) a1)) 1 0) = w22
    refine k_lload_n (i := 2) dX12_flightBits_47 (rfl : 47 + 1 = 48) rfl rfl ?_
    refine k_lret rfl dX12_flightBits_48 (Nat.le_of_ble_eq_true rfl) (Nat.le_of_ble_eq_true rfl) ?_
    subst hw22
    exact kRt_of (congrArg (fun z => some (Value.long z)) (Eq.symm (if_neg (show ¬ ((f_X12_isThrow x a1) = 0) from b7)))) (congrArg (fun z => kTp a9 (kHr z z9)) (Eq.symm (if_neg (show ¬ ((f_X12_isThrow x a1) = 0) from b7))))
  · refine k_lload_n (i := 2) dX12_flightBits_10 (rfl : 10 + 1 = 11) rfl rfl ?_
    refine k_lret rfl dX12_flightBits_11 (Nat.le_of_ble_eq_true rfl) (Nat.le_of_ble_eq_true rfl) ?_
    exact kRt_of (congrArg (fun z => some (Value.long z)) (Eq.symm (if_pos (show (f_X12_isThrow x a1) = 0 from b7)))) (congrArg (fun z => kTp a9 (kHr z z9)) (Eq.symm (if_pos (show (f_X12_isThrow x a1) = 0 from b7))))
def svL (x : kY) (p : Int32) (n : Nat) : Nat → Nat → (Int32) ⊕ (Int32)
  | 0, j => .inr (nI j)
  | k + 1, j => if ((x.2 4) (Int32.toNatClampNeg (nI j))) = (f_X12_cellOfParty (x.2 0) p) then (.inl (nI j)) else (svL x p n k (j + 1))
set_option maxRecDepth 100000 in
set_option maxHeartbeats 4000000 in
theorem lsvL {x : kY} {a9 : kH} {z9 : kE × kE} {Q : kQ} {p : Int32} {n : Nat} {a : Int32}  (h35 : n ≤ 35) (hp : kP8 p) : ∀ (k : Nat) (j : Nat), j + k = (n + 1) → (∀ y, (svL x p n k j) = .inl y → Q (.inl (some (.int y))) (kTp a9 (kHr x z9)) 130) → (∀ y, (svL x p n k j) = .inr y → kEv kX12_serves (kRm kX12_serves 0 0) (kFm false 0 0 (Q)) false 39 [.ref 116, .int a, .int p, .int (nI n), .int y] [] (kTp a9 (kHr x z9)) 130 0 0) → kEv kX12_serves (kRm kX12_serves 0 0) (kFm false 0 0 (Q)) false 9 [.ref 116, .int a, .int p, .int (nI n), .int (nI j)] [] (kTp a9 (kHr x z9)) 130 0 0 := by
  intro k
  induction k with
  | zero =>
    intro j hj hr hx
    refine k_iload (i := 4) dX12_serves_9 (rfl : 9 + 2 = 11) rfl ?_
    refine k_iload_n (i := 3) dX12_serves_11 (rfl : 11 + 1 = 12) rfl rfl ?_
    refine k_icmp_gt (tgt := 39) dX12_serves_12 (rfl : 12 + 3 = 15) (by decide) (fun b12 => ?_) (fun b12 => by exact absurd (nI_lt (a := n) (b := j) (by omega) (by omega)) b12)
    exact hx _ (by rw [svL])
  | succ k ih =>
    intro j hj hr hx
    refine k_iload (i := 4) dX12_serves_9 (rfl : 9 + 2 = 11) rfl ?_
    refine k_iload_n (i := 3) dX12_serves_11 (rfl : 11 + 1 = 12) rfl rfl ?_
    refine k_icmp_gt (tgt := 39) dX12_serves_12 (rfl : 12 + 3 = 15) (by decide) (fun b12 => by exact absurd b12 (nI_nlt (a := n) (b := j) (by omega) (by omega))) (fun b12 => ?_)
    refine k_aload_n (i := 0) dX12_serves_15 (rfl : 15 + 1 = 16) rfl rfl ?_
    refine k_get 12 11 fg_X12_29 dX12_serves_16 (rfl : 16 + 3 = 19) (Nat.le_of_ble_eq_true rfl) rfl rfl ?_
    refine k_iload (i := 4) dX12_serves_19 (rfl : 19 + 2 = 21) rfl ?_
    refine k_iald dX12_serves_21 (rfl : 21 + 1 = 22) (Nat.le_of_ble_eq_true rfl) rfl (vp_in_nI (by omega) (by omega)) ?_
    refine k_aload_n (i := 0) dX12_serves_22 (rfl : 22 + 1 = 23) rfl rfl ?_
    refine k_iload_n (i := 2) dX12_serves_23 (rfl : 23 + 1 = 24) rfl rfl ?_
    refine k_callVd1 cv_X12_74 ⟨Nat.le_of_ble_eq_true rfl, Nat.le_of_ble_eq_true rfl⟩ (m_X12_cellOfParty hp) dX12_serves_24 (rfl : 24 + 3 = 27) (Nat.le_of_ble_eq_true rfl) rfl rfl rfl ⟨Nat.le_of_ble_eq_true rfl, Nat.le_of_ble_eq_true rfl⟩ ?_
    refine k_icmp_ne (tgt := 33) dX12_serves_27 (rfl : 27 + 3 = 30) (by decide) (fun b27 => ?_) (fun b27 => ?_)
    · refine k_iinc (i := 4) (v := (nI (j + 1))) dX12_serves_33 (rfl : 33 + 3 = 36) rfl (Nat.le_of_ble_eq_true rfl) (nI_1 _) ?_
      refine k_ls (ls2 := [.ref 116, .int a, .int p, .int (nI n), .int (nI (j + 1))]) rfl ?_
      refine k_goto (tgt := 9) dX12_serves_36 (by decide) ?_
      exact ih (j + 1) (by omega) (fun y e => hr y (by rw [svL, if_neg (show ¬ (((x.2 4) (Int32.toNatClampNeg (nI j))) = (f_X12_cellOfParty (x.2 0) p)) from b27)]; exact e)) (fun y e => hx y (by rw [svL, if_neg (show ¬ (((x.2 4) (Int32.toNatClampNeg (nI j))) = (f_X12_cellOfParty (x.2 0) p)) from b27)]; exact e))
    · refine k_iload (i := 4) dX12_serves_30 (rfl : 30 + 2 = 32) rfl ?_
      refine k_iret rfl rfl dX12_serves_32 (Nat.le_of_ble_eq_true rfl) (Nat.le_of_ble_eq_true rfl) ?_
      exact hr _ (by rw [svL, if_pos (show ((x.2 4) (Int32.toNatClampNeg (nI j))) = (f_X12_cellOfParty (x.2 0) p) from b27)])
def f_X12_serves (x : kY) (a1 : Int32) (a2 : Int32) : Int32 := Sum.elim (fun w9 => w9) (fun w9 => 0) (svL (g_X12_flies x a1) a2 (Int32.toNatClampNeg (f_X12_flies x a1)) (Int32.toNatClampNeg (f_X12_flies x a1)) 1)
def g_X12_serves (x : kY) (a1 : Int32) (a2 : Int32) : kY := Sum.elim (fun w9 => (g_X12_flies x a1)) (fun w9 => (g_X12_flies x a1)) (svL (g_X12_flies x a1) a2 (Int32.toNatClampNeg (f_X12_flies x a1)) (Int32.toNatClampNeg (f_X12_flies x a1)) 1)
set_option maxRecDepth 100000 in
set_option maxHeartbeats 4000000 in
theorem m_X12_serves {x : kY} {a9 : kH} {z9 : kE × kE} {a1 : Int32} {a2 : Int32} (hn : kC64 a1) (hv : kMv (x.2 0)) (hp : kP8 a2) : kMet kX12_serves false 0 0 [.ref 116, .int a1, .int a2] (kTp a9 (kHr x z9)) 130 (kRt (some (.int (f_X12_serves x a1 a2))) (kTp a9 (kHr (g_X12_serves x a1 a2) z9)) 130) := by
  refine kMet.in (by decide) rfl rfl _ rfl ?_
  refine k_aload_n (i := 0) dX12_serves_0 (rfl : 0 + 1 = 1) rfl rfl ?_
  refine k_iload_n (i := 1) dX12_serves_1 (rfl : 1 + 1 = 2) rfl rfl ?_
  refine k_callVd1 cv_X12_162 ⟨Nat.le_of_ble_eq_true rfl, Nat.le_of_ble_eq_true rfl⟩ (m_X12_flies hn hv) dX12_serves_2 (rfl : 2 + 3 = 5) (Nat.le_of_ble_eq_true rfl) rfl rfl rfl ⟨Nat.le_of_ble_eq_true rfl, Nat.le_of_ble_eq_true rfl⟩ ?_
  refine k_istore_n (i := 3) dX12_serves_5 (rfl : 5 + 1 = 6) rfl (Nat.le_of_ble_eq_true rfl) ?_
  refine k_ls (ls2 := [.ref 116, .int a1, .int a2, .int (f_X12_flies x a1), .retAddr 0]) rfl ?_
  refine k_iconst (v := 1) dX12_serves_6 (rfl : 6 + 1 = 7) (by decide) ?_
  refine k_istore (i := 4) dX12_serves_7 (rfl : 7 + 2 = 9) (Nat.le_of_ble_eq_true rfl) ?_
  refine k_ls (ls2 := [.ref 116, .int a1, .int a2, .int (f_X12_flies x a1), .int 1]) rfl ?_
  refine k_ls (ls2 := [.ref 116, .int a1, .int a2, .int (nI (Int32.toNatClampNeg (f_X12_flies x a1))), .int 1]) (by rw [← (fl_self hn hv).1]) ?_
  refine lsvL (p := a2) (n := (Int32.toNatClampNeg (f_X12_flies x a1))) (fl_self hn hv).2 hp (Int32.toNatClampNeg (f_X12_flies x a1)) 1 (by omega) (fun w9 hw9 => ?_) (fun w9 hw9 => ?_)
  · exact kRt_of (congrArg (fun z => some (Value.int z)) (Eq.symm (congrArg (Sum.elim _ _) hw9))) (congrArg (fun z => kTp a9 (kHr z z9)) (Eq.symm (congrArg (Sum.elim _ _) hw9)))
  · refine k_iconst (v := 0) dX12_serves_39 (rfl : 39 + 1 = 40) (by decide) ?_
    refine k_iret rfl rfl dX12_serves_40 (Nat.le_of_ble_eq_true rfl) (Nat.le_of_ble_eq_true rfl) ?_
    exact kRt_of (congrArg (fun z => some (Value.int z)) (Eq.symm (congrArg (Sum.elim _ _) hw9))) (congrArg (fun z => kTp a9 (kHr z z9)) (Eq.symm (congrArg (Sum.elim _ _) hw9)))
theorem fi_0t {a : Int32} {w : Int32} {k : Nat} : ∀ {x : kY} {j : Nat}, Sum.elim (fun y : kY × Int32 => y.1.1 0 = x.1 0) (fun y : kY => y.1 0 = x.1 0) (fiI a w k x j) := by
  induction k with
  | zero => intro x j; exact rfl
  | succ k ih =>
    intro x j
    have e : (g_X12_enters x w).1 0 = x.1 0 := by unfold g_X12_enters; split <;> rfl
    rw [fiI]
    split
    · exact e
    · have h := ih (x := g_X12_enters x w) (j := j + 1)
      rw [e] at h
      exact h
theorem en_t {x : kY} {w : Int32} : (g_X12_enters x w).1 0 = x.1 0 := by unfold g_X12_enters; split <;> rfl
theorem fiL_t {a : Int32} {k : Nat} : ∀ {x : kY} {j : Nat} {w : Int32}, Sum.elim (fun y : kY × Int32 => y.1.1 0 = x.1 0) (fun y : kY => y.1 0 = x.1 0) (fiL a k x j w) := by
  induction k with
  | zero => intro x j w; exact rfl
  | succ k ih =>
    intro x j w
    have h1 := fi_0t (a := a) (w := w) (k := Int32.toNatClampNeg (f_X12_arm a)) (x := x) (j := 0)
    rw [fiL]
    revert h1
    generalize fiI a w (Int32.toNatClampNeg (f_X12_arm a)) x 0 = z
    intro h1
    cases z with
    | inl y => exact h1
    | inr y =>
      simp only [Sum.elim_inr]
      have e : y.1 0 = x.1 0 := h1
      have go : ∀ (q : kY) (w2 : Int32), q.1 0 = x.1 0 → Sum.elim (fun y : kY × Int32 => y.1.1 0 = x.1 0) (fun y : kY => y.1 0 = x.1 0) (fiL a k q (j + 1) w2) := by
        intro q w2 e2
        have h9 := ih (x := q) (j := j + 1) (w := w2)
        rw [e2] at h9
        exact h9
      split
      · split
        · exact go _ _ e
        · exact go _ _ e
      · split
        · exact en_t.trans e
        · split
          · exact go _ _ (en_t.trans e)
          · exact go _ _ (en_t.trans e)
theorem flies_t {x : kY} {a : Int32} : (g_X12_flies x a).1 0 = x.1 0 := by
  have h := fiL_t (a := a) (k := 8) (x := yS (yR (yS x 7 0) 4 (upd (x.2 4) 0 (x.2 0 3))) 8 0) (j := 0) (w := a - a / 8 * 8)
  unfold g_X12_flies
  revert h
  generalize fiL a 8 (yS (yR (yS x 7 0) 4 (upd (x.2 4) 0 ((x.2 0) 3))) 8 0) 0 (a - a / 8 * 8) = z
  intro h
  cases z with
  | inl y => exact h
  | inr y => exact h
theorem serves_g {x : kY} {a p : Int32} : g_X12_serves x a p = g_X12_flies x a := by
  unfold g_X12_serves
  cases svL (g_X12_flies x a) p (Int32.toNatClampNeg (f_X12_flies x a)) (Int32.toNatClampNeg (f_X12_flies x a)) 1 <;> rfl
theorem serves_t {x : kY} {a p : Int32} : (g_X12_serves x a p).1 0 = x.1 0 := by rw [serves_g]; exact flies_t
theorem serves_v {x : kY} {a p : Int32} (hn : kC64 a) (hv : kMv (x.2 0)) : (g_X12_serves x a p).2 0 = x.2 0 ∧ ∃ n, n ≤ 35 ∧ (g_X12_serves x a p).1 7 = nI n := by
  obtain ⟨e, n, h1, h2, h3⟩ := flies_ok hn hv
  rw [serves_g]
  exact ⟨e, n, h1, h2⟩
def seL (a : Int32) : Nat → kY → Nat → Int64 → kY × Int64
  | 0, x, j, s => (x, s)
  | k + 1, x, j, s => if (x.1 0) = 0 then (if (f_X12_serves x (nI j) a) ≤ 0 then (seL a k (g_X12_serves x (nI j) a) (j + 1) (s ||| 0)) else (seL a k (g_X12_serves x (nI j) a) (j + 1) (s ||| (1 <<< (Int32.toInt64 (nI j) &&& 63))))) else (x, s)
set_option maxRecDepth 100000 in
set_option maxHeartbeats 4000000 in
theorem lseL {a9 : kH} {z9 : kE × kE} {Q : kQ} {a : Int32}  : ∀ (k : Nat) (x : kY) (j : Nat) (s : Int64), j + k = 64 → kMv (x.2 0) → (x.1 0 = 0 → kP8 a) → (∀ (z4 : Value), kEv kX12_servingThrows (kRm kX12_servingThrows 0 0) (kFm false 0 0 (Q)) false 63 [.ref 116, .int a, .long (seL a k x j s).2, .retAddr 0, z4] [] (kTp a9 (kHr (seL a k x j s).1 z9)) 130 0 0) → kEv kX12_servingThrows (kRm kX12_servingThrows 0 0) (kFm false 0 0 (Q)) false 22 [.ref 116, .int a, .long s, .retAddr 0, .int (nI j)] [] (kTp a9 (kHr x z9)) 130 0 0 := by
  intro k
  induction k with
  | zero =>
    intro x j s hj hv hp hx
    refine k_iload (i := 4) dX12_servingThrows_22 (rfl : 22 + 2 = 24) rfl ?_
    refine k_bipush (v := 64) dX12_servingThrows_24 (rfl : 24 + 2 = 26) (by decide) ?_
    refine k_icmp_ge (tgt := 63) dX12_servingThrows_26 (rfl : 26 + 3 = 29) (by decide) (fun b26 => ?_) (fun b26 => by exact absurd (nI_le (a := 64) (b := j) (by omega) (by omega)) b26)
    rw [seL] at hx
    exact hx _
  | succ k ih =>
    intro x j s hj hv hp hx
    refine k_iload (i := 4) dX12_servingThrows_22 (rfl : 22 + 2 = 24) rfl ?_
    refine k_bipush (v := 64) dX12_servingThrows_24 (rfl : 24 + 2 = 26) (by decide) ?_
    refine k_icmp_ge (tgt := 63) dX12_servingThrows_26 (rfl : 26 + 3 = 29) (by decide) (fun b26 => by exact absurd b26 (nI_ge (a := j) (b := 64) (by omega) (by decide))) (fun b26 => ?_)
    refine k_aload_n (i := 0) dX12_servingThrows_29 (rfl : 29 + 1 = 30) rfl rfl ?_
    refine k_get 12 0 fg_X12_50 dX12_servingThrows_30 (rfl : 30 + 3 = 33) (Nat.le_of_ble_eq_true rfl) rfl rfl ?_
    refine k_if_ne (tgt := 63) dX12_servingThrows_33 (rfl : 33 + 3 = 36) (by decide) (fun b33 => ?_) (fun b33 => ?_)
    · rw [seL, if_neg (show ¬ ((x.1 0) = 0) from b33)] at hx
      exact hx _
    · refine k_lload_n (i := 2) dX12_servingThrows_36 (rfl : 36 + 1 = 37) rfl rfl ?_
      refine k_aload_n (i := 0) dX12_servingThrows_37 (rfl : 37 + 1 = 38) rfl rfl ?_
      refine k_iload (i := 4) dX12_servingThrows_38 (rfl : 38 + 2 = 40) rfl ?_
      refine k_iload_n (i := 1) dX12_servingThrows_40 (rfl : 40 + 1 = 41) rfl rfl ?_
      refine k_callVd2 cv_X12_168 ⟨Nat.le_of_ble_eq_true rfl, Nat.le_of_ble_eq_true rfl⟩ (m_X12_serves ⟨j, by omega, rfl⟩ hv (hp b33)) dX12_servingThrows_41 (rfl : 41 + 3 = 44) (Nat.le_of_ble_eq_true rfl) rfl rfl rfl ⟨Nat.le_of_ble_eq_true rfl, Nat.le_of_ble_eq_true rfl⟩ ?_
      refine k_if_le (tgt := 54) dX12_servingThrows_44 (rfl : 44 + 3 = 47) (by decide) (fun b44 => ?_) (fun b44 => ?_)
      · refine k_lconst (v := 0) dX12_servingThrows_54 (rfl : 54 + 1 = 55) (by decide) ?_
        refine k_lor dX12_servingThrows_55 (rfl : 55 + 1 = 56) ?_
        refine k_lstore_n (i := 2) dX12_servingThrows_56 (rfl : 56 + 1 = 57) rfl (Nat.le_of_ble_eq_true rfl) ?_
        refine k_ls (ls2 := [.ref 116, .int a, .long (s ||| 0), .retAddr 0, .int (nI j)]) rfl ?_
        refine k_iinc (i := 4) (v := (nI (j + 1))) dX12_servingThrows_57 (rfl : 57 + 3 = 60) rfl (Nat.le_of_ble_eq_true rfl) (nI_1 _) ?_
        refine k_ls (ls2 := [.ref 116, .int a, .long (s ||| 0), .retAddr 0, .int (nI (j + 1))]) rfl ?_
        refine k_goto (tgt := 22) dX12_servingThrows_60 (by decide) ?_
        rw [seL, if_pos (show (x.1 0) = 0 from b33), if_pos (show (f_X12_serves x (nI j) a) ≤ 0 from b44)] at hx
        exact ih (g_X12_serves x (nI j) a) (j + 1) (s ||| 0) (by omega) (by rw [(serves_v ⟨j, by omega, rfl⟩ hv).1]; exact hv) (by rw [serves_t]; exact hp) hx
      · refine k_lconst (v := 1) dX12_servingThrows_47 (rfl : 47 + 1 = 48) (by decide) ?_
        refine k_iload (i := 4) dX12_servingThrows_48 (rfl : 48 + 2 = 50) rfl ?_
        refine k_lshl dX12_servingThrows_50 (rfl : 50 + 1 = 51) ?_
        refine k_goto (tgt := 55) dX12_servingThrows_51 (by decide) ?_
        refine k_lor dX12_servingThrows_55 (rfl : 55 + 1 = 56) ?_
        refine k_lstore_n (i := 2) dX12_servingThrows_56 (rfl : 56 + 1 = 57) rfl (Nat.le_of_ble_eq_true rfl) ?_
        refine k_ls (ls2 := [.ref 116, .int a, .long (s ||| (1 <<< (Int32.toInt64 (nI j) &&& 63))), .retAddr 0, .int (nI j)]) rfl ?_
        refine k_iinc (i := 4) (v := (nI (j + 1))) dX12_servingThrows_57 (rfl : 57 + 3 = 60) rfl (Nat.le_of_ble_eq_true rfl) (nI_1 _) ?_
        refine k_ls (ls2 := [.ref 116, .int a, .long (s ||| (1 <<< (Int32.toInt64 (nI j) &&& 63))), .retAddr 0, .int (nI (j + 1))]) rfl ?_
        refine k_goto (tgt := 22) dX12_servingThrows_60 (by decide) ?_
        rw [seL, if_pos (show (x.1 0) = 0 from b33), if_neg (show ¬ ((f_X12_serves x (nI j) a) ≤ 0) from b44)] at hx
        exact ih (g_X12_serves x (nI j) a) (j + 1) (s ||| (1 <<< (Int32.toInt64 (nI j) &&& 63))) (by omega) (by rw [(serves_v ⟨j, by omega, rfl⟩ hv).1]; exact hv) (by rw [serves_t]; exact hp) hx
def f_X12_servingThrows (x : kY) (a1 : Int32) : Int64 := if (f_X12_isParty (x.2 0) a1) = 0 then ((seL a1 64 (yS x 0 1) 0 0).2) else ((seL a1 64 (yS x 0 0) 0 0).2)
def g_X12_servingThrows (x : kY) (a1 : Int32) : kY := if (f_X12_isParty (x.2 0) a1) = 0 then ((seL a1 64 (yS x 0 1) 0 0).1) else ((seL a1 64 (yS x 0 0) 0 0).1)
set_option maxRecDepth 100000 in
set_option maxHeartbeats 4000000 in
theorem m_X12_servingThrows {x : kY} {a9 : kH} {z9 : kE × kE} {a1 : Int32} (hv : kMv (x.2 0)) : kMet kX12_servingThrows false 0 0 [.ref 116, .int a1] (kTp a9 (kHr x z9)) 130 (kRt (some (.long (f_X12_servingThrows x a1))) (kTp a9 (kHr (g_X12_servingThrows x a1) z9)) 130) := by
  refine kMet.in (by decide) rfl rfl _ rfl ?_
  refine k_aload_n (i := 0) dX12_servingThrows_0 (rfl : 0 + 1 = 1) rfl rfl ?_
  refine k_aload_n (i := 0) dX12_servingThrows_1 (rfl : 1 + 1 = 2) rfl rfl ?_
  refine k_iload_n (i := 1) dX12_servingThrows_2 (rfl : 2 + 1 = 3) rfl rfl ?_
  refine k_callVd1 cv_X12_140 ⟨Nat.le_of_ble_eq_true rfl, Nat.le_of_ble_eq_true rfl⟩ (m_X12_isParty) dX12_servingThrows_3 (rfl : 3 + 3 = 6) (Nat.le_of_ble_eq_true rfl) rfl rfl rfl ⟨Nat.le_of_ble_eq_true rfl, Nat.le_of_ble_eq_true rfl⟩ ?_
  refine k_if_eq (tgt := 13) dX12_servingThrows_6 (rfl : 6 + 3 = 9) (by decide) (fun b6 => ?_) (fun b6 => ?_)
  · refine k_iconst (v := 1) dX12_servingThrows_13 (rfl : 13 + 1 = 14) (by decide) ?_
    refine k_put 12 0 fp_X12_50 dX12_servingThrows_14 (rfl : 14 + 3 = 17) (Nat.le_of_ble_eq_true rfl) rfl (Nat.le_of_ble_eq_true rfl) rfl rfl ?_
    refine kf_Y0 (v := 1) rfl ?_
    refine k_lconst (v := 0) dX12_servingThrows_17 (rfl : 17 + 1 = 18) (by decide) ?_
    refine k_lstore_n (i := 2) dX12_servingThrows_18 (rfl : 18 + 1 = 19) rfl (Nat.le_of_ble_eq_true rfl) ?_
    refine k_ls (ls2 := [.ref 116, .int a1, .long 0, .retAddr 0, .retAddr 0]) rfl ?_
    refine k_iconst (v := 0) dX12_servingThrows_19 (rfl : 19 + 1 = 20) (by decide) ?_
    refine k_istore (i := 4) dX12_servingThrows_20 (rfl : 20 + 2 = 22) (Nat.le_of_ble_eq_true rfl) ?_
    refine k_ls (ls2 := [.ref 116, .int a1, .long 0, .retAddr 0, .int 0]) rfl ?_
    refine lseL (a := a1) 64 (yS x 0 1) 0 0 (by omega) hv (fun h9 => absurd h9 (by show ¬ (1 : Int32) = 0; decide)) (fun z4 => ?_)
    generalize hw22 : (seL a1 64 (yS x 0 1) 0 0) = w22
    refine k_lload_n (i := 2) dX12_servingThrows_63 (rfl : 63 + 1 = 64) rfl rfl ?_
    refine k_lret rfl dX12_servingThrows_64 (Nat.le_of_ble_eq_true rfl) (Nat.le_of_ble_eq_true rfl) ?_
    subst hw22
    exact kRt_of (congrArg (fun z => some (Value.long z)) (Eq.symm (if_pos (show (f_X12_isParty (x.2 0) a1) = 0 from b6)))) (congrArg (fun z => kTp a9 (kHr z z9)) (Eq.symm (if_pos (show (f_X12_isParty (x.2 0) a1) = 0 from b6))))
  · refine k_iconst (v := 0) dX12_servingThrows_9 (rfl : 9 + 1 = 10) (by decide) ?_
    refine k_goto (tgt := 14) dX12_servingThrows_10 (by decide) ?_
    refine k_put 12 0 fp_X12_50 dX12_servingThrows_14 (rfl : 14 + 3 = 17) (Nat.le_of_ble_eq_true rfl) rfl (Nat.le_of_ble_eq_true rfl) rfl rfl ?_
    refine kf_Y0 (v := 0) rfl ?_
    refine k_lconst (v := 0) dX12_servingThrows_17 (rfl : 17 + 1 = 18) (by decide) ?_
    refine k_lstore_n (i := 2) dX12_servingThrows_18 (rfl : 18 + 1 = 19) rfl (Nat.le_of_ble_eq_true rfl) ?_
    refine k_ls (ls2 := [.ref 116, .int a1, .long 0, .retAddr 0, .retAddr 0]) rfl ?_
    refine k_iconst (v := 0) dX12_servingThrows_19 (rfl : 19 + 1 = 20) (by decide) ?_
    refine k_istore (i := 4) dX12_servingThrows_20 (rfl : 20 + 2 = 22) (Nat.le_of_ble_eq_true rfl) ?_
    refine k_ls (ls2 := [.ref 116, .int a1, .long 0, .retAddr 0, .int 0]) rfl ?_
    refine lseL (a := a1) 64 (yS x 0 0) 0 0 (by omega) hv (fun _ => ip_8 hv b6) (fun z4 => ?_)
    generalize hw22 : (seL a1 64 (yS x 0 0) 0 0) = w22
    refine k_lload_n (i := 2) dX12_servingThrows_63 (rfl : 63 + 1 = 64) rfl rfl ?_
    refine k_lret rfl dX12_servingThrows_64 (Nat.le_of_ble_eq_true rfl) (Nat.le_of_ble_eq_true rfl) ?_
    subst hw22
    exact kRt_of (congrArg (fun z => some (Value.long z)) (Eq.symm (if_neg (show ¬ ((f_X12_isParty (x.2 0) a1) = 0) from b6)))) (congrArg (fun z => kTp a9 (kHr z z9)) (Eq.symm (if_neg (show ¬ ((f_X12_isParty (x.2 0) a1) = 0) from b6))))
def beL (a : Int32) : Nat → kY → Nat → Int32 → Int32 → kY × Int32
  | 0, x, j, b, s => (x, b)
  | k + 1, x, j, b, s => if (f_X12_serves x (nI j) a) = 0 then (beL a k (g_X12_serves x (nI j) a) (j + 1) b s) else (if b < 0 then (beL a k (g_X12_serves x (nI j) a) (j + 1) (nI j) (f_X12_serves x (nI j) a)) else (if (f_X12_arm b) < (f_X12_arm (nI j)) then (beL a k (g_X12_serves x (nI j) a) (j + 1) b s) else (if (f_X12_arm (nI j)) = (f_X12_arm b) then (if (f_X12_serves x (nI j) a) < s then (beL a k (g_X12_serves x (nI j) a) (j + 1) (nI j) (f_X12_serves x (nI j) a)) else (beL a k (g_X12_serves x (nI j) a) (j + 1) b s)) else (beL a k (g_X12_serves x (nI j) a) (j + 1) (nI j) (f_X12_serves x (nI j) a)))))
set_option maxRecDepth 100000 in
set_option maxHeartbeats 4000000 in
theorem lbeL {a9 : kH} {z9 : kE × kE} {Q : kQ} {a : Int32}  (hp : kP8 a) : ∀ (k : Nat) (x : kY) (j : Nat) (b : Int32) (s : Int32) (t5 : Value), j + k = 64 → kMv (x.2 0) → (∀ (z4 : Value) (z3 : Value) (z5 : Value), kEv kX12_bestThrow (kRm kX12_bestThrow 0 0) (kFm false 0 0 (Q)) false 106 [.ref 116, .int a, .int (beL a k x j b s).2, z3, z4, z5] [] (kTp a9 (kHr (beL a k x j b s).1 z9)) 130 0 0) → kEv kX12_bestThrow (kRm kX12_bestThrow 0 0) (kFm false 0 0 (Q)) false 33 [.ref 116, .int a, .int b, .int s, .int (nI j), t5] [] (kTp a9 (kHr x z9)) 130 0 0 := by
  intro k
  induction k with
  | zero =>
    intro x j b s t5 hj hv hx
    refine k_iload (i := 4) dX12_bestThrow_33 (rfl : 33 + 2 = 35) rfl ?_
    refine k_bipush (v := 64) dX12_bestThrow_35 (rfl : 35 + 2 = 37) (by decide) ?_
    refine k_icmp_ge (tgt := 106) dX12_bestThrow_37 (rfl : 37 + 3 = 40) (by decide) (fun b37 => ?_) (fun b37 => by exact absurd (nI_le (a := 64) (b := j) (by omega) (by omega)) b37)
    rw [beL] at hx
    exact hx _ _ _
  | succ k ih =>
    intro x j b s t5 hj hv hx
    refine k_iload (i := 4) dX12_bestThrow_33 (rfl : 33 + 2 = 35) rfl ?_
    refine k_bipush (v := 64) dX12_bestThrow_35 (rfl : 35 + 2 = 37) (by decide) ?_
    refine k_icmp_ge (tgt := 106) dX12_bestThrow_37 (rfl : 37 + 3 = 40) (by decide) (fun b37 => by exact absurd b37 (nI_ge (a := j) (b := 64) (by omega) (by decide))) (fun b37 => ?_)
    refine k_aload_n (i := 0) dX12_bestThrow_40 (rfl : 40 + 1 = 41) rfl rfl ?_
    refine k_iload (i := 4) dX12_bestThrow_41 (rfl : 41 + 2 = 43) rfl ?_
    refine k_iload_n (i := 1) dX12_bestThrow_43 (rfl : 43 + 1 = 44) rfl rfl ?_
    refine k_callVd2 cv_X12_168 ⟨Nat.le_of_ble_eq_true rfl, Nat.le_of_ble_eq_true rfl⟩ (m_X12_serves ⟨j, by omega, rfl⟩ hv hp) dX12_bestThrow_44 (rfl : 44 + 3 = 47) (Nat.le_of_ble_eq_true rfl) rfl rfl rfl ⟨Nat.le_of_ble_eq_true rfl, Nat.le_of_ble_eq_true rfl⟩ ?_
    refine k_istore (i := 5) dX12_bestThrow_47 (rfl : 47 + 2 = 49) (Nat.le_of_ble_eq_true rfl) ?_
    refine k_ls (ls2 := [.ref 116, .int a, .int b, .int s, .int (nI j), .int (f_X12_serves x (nI j) a)]) rfl ?_
    refine k_iload (i := 5) dX12_bestThrow_49 (rfl : 49 + 2 = 51) rfl ?_
    refine k_if_ne (tgt := 57) dX12_bestThrow_51 (rfl : 51 + 3 = 54) (by decide) (fun b51 => ?_) (fun b51 => ?_)
    · refine k_iload_n (i := 2) dX12_bestThrow_57 (rfl : 57 + 1 = 58) rfl rfl ?_
      refine k_if_lt (tgt := 94) dX12_bestThrow_58 (rfl : 58 + 3 = 61) (by decide) (fun b58 => ?_) (fun b58 => ?_)
      · refine k_iload (i := 4) dX12_bestThrow_94 (rfl : 94 + 2 = 96) rfl ?_
        refine k_istore_n (i := 2) dX12_bestThrow_96 (rfl : 96 + 1 = 97) rfl (Nat.le_of_ble_eq_true rfl) ?_
        refine k_ls (ls2 := [.ref 116, .int a, .int (nI j), .int s, .int (nI j), .int (f_X12_serves x (nI j) a)]) rfl ?_
        refine k_iload (i := 5) dX12_bestThrow_97 (rfl : 97 + 2 = 99) rfl ?_
        refine k_istore_n (i := 3) dX12_bestThrow_99 (rfl : 99 + 1 = 100) rfl (Nat.le_of_ble_eq_true rfl) ?_
        refine k_ls (ls2 := [.ref 116, .int a, .int (nI j), .int (f_X12_serves x (nI j) a), .int (nI j), .int (f_X12_serves x (nI j) a)]) rfl ?_
        refine k_iinc (i := 4) (v := (nI (j + 1))) dX12_bestThrow_100 (rfl : 100 + 3 = 103) rfl (Nat.le_of_ble_eq_true rfl) (nI_1 _) ?_
        refine k_ls (ls2 := [.ref 116, .int a, .int (nI j), .int (f_X12_serves x (nI j) a), .int (nI (j + 1)), .int (f_X12_serves x (nI j) a)]) rfl ?_
        refine k_goto (tgt := 33) dX12_bestThrow_103 (by decide) ?_
        rw [beL, if_neg (show ¬ ((f_X12_serves x (nI j) a) = 0) from b51), if_pos (show b < 0 from b58)] at hx
        exact ih (g_X12_serves x (nI j) a) (j + 1) (nI j) (f_X12_serves x (nI j) a) _ (by omega) (by rw [(serves_v ⟨j, by omega, rfl⟩ hv).1]; exact hv) hx
      · refine k_iload (i := 4) dX12_bestThrow_61 (rfl : 61 + 2 = 63) rfl ?_
        refine k_callSd1 cv_X12_153 ⟨Nat.le_of_ble_eq_true rfl, Nat.le_of_ble_eq_true rfl⟩ (m_X12_arm) dX12_bestThrow_63 (rfl : 63 + 3 = 66) rfl ⟨Nat.le_of_ble_eq_true rfl, Nat.le_of_ble_eq_true rfl⟩ ?_
        refine k_iload_n (i := 2) dX12_bestThrow_66 (rfl : 66 + 1 = 67) rfl rfl ?_
        refine k_callSd1 cv_X12_153 ⟨Nat.le_of_ble_eq_true rfl, Nat.le_of_ble_eq_true rfl⟩ (m_X12_arm) dX12_bestThrow_67 (rfl : 67 + 3 = 70) rfl ⟨Nat.le_of_ble_eq_true rfl, Nat.le_of_ble_eq_true rfl⟩ ?_
        refine k_icmp_gt (tgt := 100) dX12_bestThrow_70 (rfl : 70 + 3 = 73) (by decide) (fun b70 => ?_) (fun b70 => ?_)
        · refine k_iinc (i := 4) (v := (nI (j + 1))) dX12_bestThrow_100 (rfl : 100 + 3 = 103) rfl (Nat.le_of_ble_eq_true rfl) (nI_1 _) ?_
          refine k_ls (ls2 := [.ref 116, .int a, .int b, .int s, .int (nI (j + 1)), .int (f_X12_serves x (nI j) a)]) rfl ?_
          refine k_goto (tgt := 33) dX12_bestThrow_103 (by decide) ?_
          rw [beL, if_neg (show ¬ ((f_X12_serves x (nI j) a) = 0) from b51), if_neg (show ¬ (b < 0) from b58), if_pos (show (f_X12_arm b) < (f_X12_arm (nI j)) from b70)] at hx
          exact ih (g_X12_serves x (nI j) a) (j + 1) b s _ (by omega) (by rw [(serves_v ⟨j, by omega, rfl⟩ hv).1]; exact hv) hx
        · refine k_iload (i := 4) dX12_bestThrow_73 (rfl : 73 + 2 = 75) rfl ?_
          refine k_callSd1 cv_X12_153 ⟨Nat.le_of_ble_eq_true rfl, Nat.le_of_ble_eq_true rfl⟩ (m_X12_arm) dX12_bestThrow_75 (rfl : 75 + 3 = 78) rfl ⟨Nat.le_of_ble_eq_true rfl, Nat.le_of_ble_eq_true rfl⟩ ?_
          refine k_iload_n (i := 2) dX12_bestThrow_78 (rfl : 78 + 1 = 79) rfl rfl ?_
          refine k_callSd1 cv_X12_153 ⟨Nat.le_of_ble_eq_true rfl, Nat.le_of_ble_eq_true rfl⟩ (m_X12_arm) dX12_bestThrow_79 (rfl : 79 + 3 = 82) rfl ⟨Nat.le_of_ble_eq_true rfl, Nat.le_of_ble_eq_true rfl⟩ ?_
          refine k_icmp_ne (tgt := 94) dX12_bestThrow_82 (rfl : 82 + 3 = 85) (by decide) (fun b82 => ?_) (fun b82 => ?_)
          · refine k_iload (i := 4) dX12_bestThrow_94 (rfl : 94 + 2 = 96) rfl ?_
            refine k_istore_n (i := 2) dX12_bestThrow_96 (rfl : 96 + 1 = 97) rfl (Nat.le_of_ble_eq_true rfl) ?_
            refine k_ls (ls2 := [.ref 116, .int a, .int (nI j), .int s, .int (nI j), .int (f_X12_serves x (nI j) a)]) rfl ?_
            refine k_iload (i := 5) dX12_bestThrow_97 (rfl : 97 + 2 = 99) rfl ?_
            refine k_istore_n (i := 3) dX12_bestThrow_99 (rfl : 99 + 1 = 100) rfl (Nat.le_of_ble_eq_true rfl) ?_
            refine k_ls (ls2 := [.ref 116, .int a, .int (nI j), .int (f_X12_serves x (nI j) a), .int (nI j), .int (f_X12_serves x (nI j) a)]) rfl ?_
            refine k_iinc (i := 4) (v := (nI (j + 1))) dX12_bestThrow_100 (rfl : 100 + 3 = 103) rfl (Nat.le_of_ble_eq_true rfl) (nI_1 _) ?_
            refine k_ls (ls2 := [.ref 116, .int a, .int (nI j), .int (f_X12_serves x (nI j) a), .int (nI (j + 1)), .int (f_X12_serves x (nI j) a)]) rfl ?_
            refine k_goto (tgt := 33) dX12_bestThrow_103 (by decide) ?_
            rw [beL, if_neg (show ¬ ((f_X12_serves x (nI j) a) = 0) from b51), if_neg (show ¬ (b < 0) from b58), if_neg (show ¬ ((f_X12_arm b) < (f_X12_arm (nI j))) from b70), if_neg (show ¬ ((f_X12_arm (nI j)) = (f_X12_arm b)) from b82)] at hx
            exact ih (g_X12_serves x (nI j) a) (j + 1) (nI j) (f_X12_serves x (nI j) a) _ (by omega) (by rw [(serves_v ⟨j, by omega, rfl⟩ hv).1]; exact hv) hx
          · refine k_iload (i := 5) dX12_bestThrow_85 (rfl : 85 + 2 = 87) rfl ?_
            refine k_iload_n (i := 3) dX12_bestThrow_87 (rfl : 87 + 1 = 88) rfl rfl ?_
            refine k_icmp_lt (tgt := 94) dX12_bestThrow_88 (rfl : 88 + 3 = 91) (by decide) (fun b88 => ?_) (fun b88 => ?_)
            · refine k_iload (i := 4) dX12_bestThrow_94 (rfl : 94 + 2 = 96) rfl ?_
              refine k_istore_n (i := 2) dX12_bestThrow_96 (rfl : 96 + 1 = 97) rfl (Nat.le_of_ble_eq_true rfl) ?_
              refine k_ls (ls2 := [.ref 116, .int a, .int (nI j), .int s, .int (nI j), .int (f_X12_serves x (nI j) a)]) rfl ?_
              refine k_iload (i := 5) dX12_bestThrow_97 (rfl : 97 + 2 = 99) rfl ?_
              refine k_istore_n (i := 3) dX12_bestThrow_99 (rfl : 99 + 1 = 100) rfl (Nat.le_of_ble_eq_true rfl) ?_
              refine k_ls (ls2 := [.ref 116, .int a, .int (nI j), .int (f_X12_serves x (nI j) a), .int (nI j), .int (f_X12_serves x (nI j) a)]) rfl ?_
              refine k_iinc (i := 4) (v := (nI (j + 1))) dX12_bestThrow_100 (rfl : 100 + 3 = 103) rfl (Nat.le_of_ble_eq_true rfl) (nI_1 _) ?_
              refine k_ls (ls2 := [.ref 116, .int a, .int (nI j), .int (f_X12_serves x (nI j) a), .int (nI (j + 1)), .int (f_X12_serves x (nI j) a)]) rfl ?_
              refine k_goto (tgt := 33) dX12_bestThrow_103 (by decide) ?_
              rw [beL, if_neg (show ¬ ((f_X12_serves x (nI j) a) = 0) from b51), if_neg (show ¬ (b < 0) from b58), if_neg (show ¬ ((f_X12_arm b) < (f_X12_arm (nI j))) from b70), if_pos (show (f_X12_arm (nI j)) = (f_X12_arm b) from b82), if_pos (show (f_X12_serves x (nI j) a) < s from b88)] at hx
              exact ih (g_X12_serves x (nI j) a) (j + 1) (nI j) (f_X12_serves x (nI j) a) _ (by omega) (by rw [(serves_v ⟨j, by omega, rfl⟩ hv).1]; exact hv) hx
            · refine k_goto (tgt := 100) dX12_bestThrow_91 (by decide) ?_
              refine k_iinc (i := 4) (v := (nI (j + 1))) dX12_bestThrow_100 (rfl : 100 + 3 = 103) rfl (Nat.le_of_ble_eq_true rfl) (nI_1 _) ?_
              refine k_ls (ls2 := [.ref 116, .int a, .int b, .int s, .int (nI (j + 1)), .int (f_X12_serves x (nI j) a)]) rfl ?_
              refine k_goto (tgt := 33) dX12_bestThrow_103 (by decide) ?_
              rw [beL, if_neg (show ¬ ((f_X12_serves x (nI j) a) = 0) from b51), if_neg (show ¬ (b < 0) from b58), if_neg (show ¬ ((f_X12_arm b) < (f_X12_arm (nI j))) from b70), if_pos (show (f_X12_arm (nI j)) = (f_X12_arm b) from b82), if_neg (show ¬ ((f_X12_serves x (nI j) a) < s) from b88)] at hx
              exact ih (g_X12_serves x (nI j) a) (j + 1) b s _ (by omega) (by rw [(serves_v ⟨j, by omega, rfl⟩ hv).1]; exact hv) hx
    · refine k_goto (tgt := 100) dX12_bestThrow_54 (by decide) ?_
      refine k_iinc (i := 4) (v := (nI (j + 1))) dX12_bestThrow_100 (rfl : 100 + 3 = 103) rfl (Nat.le_of_ble_eq_true rfl) (nI_1 _) ?_
      refine k_ls (ls2 := [.ref 116, .int a, .int b, .int s, .int (nI (j + 1)), .int (f_X12_serves x (nI j) a)]) rfl ?_
      refine k_goto (tgt := 33) dX12_bestThrow_103 (by decide) ?_
      rw [beL, if_pos (show (f_X12_serves x (nI j) a) = 0 from b51)] at hx
      exact ih (g_X12_serves x (nI j) a) (j + 1) b s _ (by omega) (by rw [(serves_v ⟨j, by omega, rfl⟩ hv).1]; exact hv) hx
def f_X12_bestThrow (x : kY) (a1 : Int32) : Int32 := if (f_X12_isParty (x.2 0) a1) = 0 then 0 else (if 0 ≤ (beL a1 64 (yS x 0 0) 0 (-1) 0).2 then ((beL a1 64 (yS x 0 0) 0 (-1) 0).2) else (f_X12_fail (beL a1 64 (yS x 0 0) 0 (-1) 0).1 2))
def g_X12_bestThrow (x : kY) (a1 : Int32) : kY := if (f_X12_isParty (x.2 0) a1) = 0 then (yS x 0 1) else (if 0 ≤ (beL a1 64 (yS x 0 0) 0 (-1) 0).2 then ((beL a1 64 (yS x 0 0) 0 (-1) 0).1) else (g_X12_fail (beL a1 64 (yS x 0 0) 0 (-1) 0).1 2))
set_option maxRecDepth 100000 in
set_option maxHeartbeats 4000000 in
theorem m_X12_bestThrow {x : kY} {a9 : kH} {z9 : kE × kE} {a1 : Int32} (hv : kMv (x.2 0)) : kMet kX12_bestThrow false 0 0 [.ref 116, .int a1] (kTp a9 (kHr x z9)) 130 (kRt (some (.int (f_X12_bestThrow x a1))) (kTp a9 (kHr (g_X12_bestThrow x a1) z9)) 130) := by
  refine kMet.in (by decide) rfl rfl _ rfl ?_
  refine k_aload_n (i := 0) dX12_bestThrow_0 (rfl : 0 + 1 = 1) rfl rfl ?_
  refine k_aload_n (i := 0) dX12_bestThrow_1 (rfl : 1 + 1 = 2) rfl rfl ?_
  refine k_iload_n (i := 1) dX12_bestThrow_2 (rfl : 2 + 1 = 3) rfl rfl ?_
  refine k_callVd1 cv_X12_140 ⟨Nat.le_of_ble_eq_true rfl, Nat.le_of_ble_eq_true rfl⟩ (m_X12_isParty) dX12_bestThrow_3 (rfl : 3 + 3 = 6) (Nat.le_of_ble_eq_true rfl) rfl rfl rfl ⟨Nat.le_of_ble_eq_true rfl, Nat.le_of_ble_eq_true rfl⟩ ?_
  refine k_if_eq (tgt := 13) dX12_bestThrow_6 (rfl : 6 + 3 = 9) (by decide) (fun b6 => ?_) (fun b6 => ?_)
  · refine k_iconst (v := 1) dX12_bestThrow_13 (rfl : 13 + 1 = 14) (by decide) ?_
    refine k_put 12 0 fp_X12_50 dX12_bestThrow_14 (rfl : 14 + 3 = 17) (Nat.le_of_ble_eq_true rfl) rfl (Nat.le_of_ble_eq_true rfl) rfl rfl ?_
    refine kf_Y0 (v := 1) rfl ?_
    refine k_aload_n (i := 0) dX12_bestThrow_17 (rfl : 17 + 1 = 18) rfl rfl ?_
    refine k_get 12 0 fg_X12_50 dX12_bestThrow_18 (rfl : 18 + 3 = 21) (Nat.le_of_ble_eq_true rfl) rfl rfl ?_
    refine k_if_eq (tgt := 26) dX12_bestThrow_21 (rfl : 21 + 3 = 24) (by decide) (fun b21 => by exact absurd b21 (by first | decide | (show ¬ (1 : Int32) = 0; decide))) (fun b21 => ?_)
    refine k_iconst (v := 0) dX12_bestThrow_24 (rfl : 24 + 1 = 25) (by decide) ?_
    refine k_iret rfl rfl dX12_bestThrow_25 (Nat.le_of_ble_eq_true rfl) (Nat.le_of_ble_eq_true rfl) ?_
    exact kRt_of (congrArg (fun z => some (Value.int z)) (Eq.symm (if_pos (show (f_X12_isParty (x.2 0) a1) = 0 from b6)))) (congrArg (fun z => kTp a9 (kHr z z9)) (Eq.symm (if_pos (show (f_X12_isParty (x.2 0) a1) = 0 from b6))))
  · refine k_iconst (v := 0) dX12_bestThrow_9 (rfl : 9 + 1 = 10) (by decide) ?_
    refine k_goto (tgt := 14) dX12_bestThrow_10 (by decide) ?_
    refine k_put 12 0 fp_X12_50 dX12_bestThrow_14 (rfl : 14 + 3 = 17) (Nat.le_of_ble_eq_true rfl) rfl (Nat.le_of_ble_eq_true rfl) rfl rfl ?_
    refine kf_Y0 (v := 0) rfl ?_
    refine k_aload_n (i := 0) dX12_bestThrow_17 (rfl : 17 + 1 = 18) rfl rfl ?_
    refine k_get 12 0 fg_X12_50 dX12_bestThrow_18 (rfl : 18 + 3 = 21) (Nat.le_of_ble_eq_true rfl) rfl rfl ?_
    refine k_if_eq (tgt := 26) dX12_bestThrow_21 (rfl : 21 + 3 = 24) (by decide) (fun b21 => ?_) (fun b21 => by exact absurd (by first | decide | (show (0 : Int32) = 0; decide)) b21)
    refine k_iconst (v := (-1)) dX12_bestThrow_26 (rfl : 26 + 1 = 27) (by decide) ?_
    refine k_istore_n (i := 2) dX12_bestThrow_27 (rfl : 27 + 1 = 28) rfl (Nat.le_of_ble_eq_true rfl) ?_
    refine k_ls (ls2 := [.ref 116, .int a1, .int (-1), .retAddr 0, .retAddr 0, .retAddr 0]) rfl ?_
    refine k_iconst (v := 0) dX12_bestThrow_28 (rfl : 28 + 1 = 29) (by decide) ?_
    refine k_istore_n (i := 3) dX12_bestThrow_29 (rfl : 29 + 1 = 30) rfl (Nat.le_of_ble_eq_true rfl) ?_
    refine k_ls (ls2 := [.ref 116, .int a1, .int (-1), .int 0, .retAddr 0, .retAddr 0]) rfl ?_
    refine k_iconst (v := 0) dX12_bestThrow_30 (rfl : 30 + 1 = 31) (by decide) ?_
    refine k_istore (i := 4) dX12_bestThrow_31 (rfl : 31 + 2 = 33) (Nat.le_of_ble_eq_true rfl) ?_
    refine k_ls (ls2 := [.ref 116, .int a1, .int (-1), .int 0, .int 0, .retAddr 0]) rfl ?_
    refine lbeL (a := a1) (ip_8 hv b6) 64 (yS x 0 0) 0 (-1) 0 _ (by omega) hv (fun z4 z3 z5 => ?_)
    generalize hw33 : (beL a1 64 (yS x 0 0) 0 (-1) 0) = w33
    refine k_iload_n (i := 2) dX12_bestThrow_106 (rfl : 106 + 1 = 107) rfl rfl ?_
    refine k_if_ge (tgt := 118) dX12_bestThrow_107 (rfl : 107 + 3 = 110) (by decide) (fun b107 => ?_) (fun b107 => ?_)
    · refine k_iload_n (i := 2) dX12_bestThrow_118 (rfl : 118 + 1 = 119) rfl rfl ?_
      refine k_iret rfl rfl dX12_bestThrow_119 (Nat.le_of_ble_eq_true rfl) (Nat.le_of_ble_eq_true rfl) ?_
      subst hw33
      exact kRt_of (congrArg (fun z => some (Value.int z)) (Eq.symm (Eq.trans (if_neg (show ¬ ((f_X12_isParty (x.2 0) a1) = 0) from b6)) (if_pos (show 0 ≤ (beL a1 64 (yS x 0 0) 0 (-1) 0).2 from b107))))) (congrArg (fun z => kTp a9 (kHr z z9)) (Eq.symm (Eq.trans (if_neg (show ¬ ((f_X12_isParty (x.2 0) a1) = 0) from b6)) (if_pos (show 0 ≤ (beL a1 64 (yS x 0 0) 0 (-1) 0).2 from b107)))))
    · refine k_aload_n (i := 0) dX12_bestThrow_110 (rfl : 110 + 1 = 111) rfl rfl ?_
      refine k_iconst (v := 2) dX12_bestThrow_111 (rfl : 111 + 1 = 112) (by decide) ?_
      refine k_callVd1 cv_X12_59 ⟨Nat.le_of_ble_eq_true rfl, Nat.le_of_ble_eq_true rfl⟩ (m_X12_fail) dX12_bestThrow_112 (rfl : 112 + 3 = 115) (Nat.le_of_ble_eq_true rfl) rfl rfl rfl ⟨Nat.le_of_ble_eq_true rfl, Nat.le_of_ble_eq_true rfl⟩ ?_
      refine k_goto (tgt := 119) dX12_bestThrow_115 (by decide) ?_
      refine k_iret rfl rfl dX12_bestThrow_119 (Nat.le_of_ble_eq_true rfl) (Nat.le_of_ble_eq_true rfl) ?_
      subst hw33
      exact kRt_of (congrArg (fun z => some (Value.int z)) (Eq.symm (Eq.trans (if_neg (show ¬ ((f_X12_isParty (x.2 0) a1) = 0) from b6)) (if_neg (show ¬ (0 ≤ (beL a1 64 (yS x 0 0) 0 (-1) 0).2) from b107))))) (congrArg (fun z => kTp a9 (kHr z z9)) (Eq.symm (Eq.trans (if_neg (show ¬ ((f_X12_isParty (x.2 0) a1) = 0) from b6)) (if_neg (show ¬ (0 ≤ (beL a1 64 (yS x 0 0) 0 (-1) 0).2) from b107)))))
theorem ic_c {a b : Int32} (h : ¬ f_X12_isCell a b = 0) : kC64 (8 * b + a) := by
  unfold f_X12_isCell at h
  by_cases h1 : f_X12_isIn a 0 7 = 0
  · rw [if_pos h1] at h; exact absurd rfl h
  rw [if_neg h1] at h
  by_cases h2 : f_X12_isIn b 0 7 = 0
  · rw [if_pos h2] at h; exact absurd rfl h
  obtain ⟨i, hi, rfl⟩ := in_t (n := 7) (by decide) h1
  obtain ⟨j, hj, rfl⟩ := in_t (n := 7) (by decide) h2
  have h3 : ∀ i, i < 8 → ∀ j, j < 8 → (8 : Int32) * nI j + nI i = nI (8 * j + i) := by decide
  exact ⟨8 * j + i, by omega, h3 i (by omega) j (by omega)⟩
def f_X12_plants (x : kY) (a1 : Int32) (a2 : Int32) (a3 : Int32) : Int32 := if (f_X12_isCell a1 a2) = 0 then (f_X12_fail x 1) else (if a3 = 0 then (f_X12_trees (upd (x.2 0) (Int32.toNatClampNeg (12 + ((8 * a2) + a1))) 0) ) else (if (sdL (x.2 0) ((8 * a2) + a1) (Int32.toNatClampNeg ((x.2 0) 6)) 0) < 0 then (if ((x.2 0) 3) = ((8 * a2) + a1) then (f_X12_refuses x 2 3 ((8 * a2) + a1)) else (f_X12_trees (upd (x.2 0) (Int32.toNatClampNeg (12 + ((8 * a2) + a1))) 1) )) else (f_X12_refuses x 2 2 (sdL (x.2 0) ((8 * a2) + a1) (Int32.toNatClampNeg ((x.2 0) 6)) 0))))
def g_X12_plants (x : kY) (a1 : Int32) (a2 : Int32) (a3 : Int32) : kY := if (f_X12_isCell a1 a2) = 0 then (g_X12_fail x 1) else (if a3 = 0 then (yR x 0 (upd (x.2 0) (Int32.toNatClampNeg (12 + ((8 * a2) + a1))) 0)) else (if (sdL (x.2 0) ((8 * a2) + a1) (Int32.toNatClampNeg ((x.2 0) 6)) 0) < 0 then (if ((x.2 0) 3) = ((8 * a2) + a1) then (g_X12_refuses x 2 3 ((8 * a2) + a1)) else (yR x 0 (upd (x.2 0) (Int32.toNatClampNeg (12 + ((8 * a2) + a1))) 1))) else (g_X12_refuses x 2 2 (sdL (x.2 0) ((8 * a2) + a1) (Int32.toNatClampNeg ((x.2 0) 6)) 0))))
set_option maxRecDepth 100000 in
set_option maxHeartbeats 4000000 in
theorem m_X12_plants {x : kY} {a9 : kH} {z9 : kE × kE} {a1 : Int32} {a2 : Int32} {a3 : Int32} (hv : kMv (x.2 0)) : kMet kX12_plants false 0 0 [.ref 116, .int a1, .int a2, .int a3] (kTp a9 (kHr x z9)) 130 (kRt (some (.int (f_X12_plants x a1 a2 a3))) (kTp a9 (kHr (g_X12_plants x a1 a2 a3) z9)) 130) := by
  refine kMet.in (by decide) rfl rfl _ rfl ?_
  refine k_iload_n (i := 1) dX12_plants_0 (rfl : 0 + 1 = 1) rfl rfl ?_
  refine k_iload_n (i := 2) dX12_plants_1 (rfl : 1 + 1 = 2) rfl rfl ?_
  refine k_callSd2 cv_X12_81 ⟨Nat.le_of_ble_eq_true rfl, Nat.le_of_ble_eq_true rfl⟩ (m_X12_isCell) dX12_plants_2 (rfl : 2 + 3 = 5) rfl ⟨Nat.le_of_ble_eq_true rfl, Nat.le_of_ble_eq_true rfl⟩ ?_
  refine k_if_ne (tgt := 14) dX12_plants_5 (rfl : 5 + 3 = 8) (by decide) (fun b5 => ?_) (fun b5 => ?_)
  · refine k_bipush (v := 8) dX12_plants_14 (rfl : 14 + 2 = 16) (by decide) ?_
    refine k_iload_n (i := 2) dX12_plants_16 (rfl : 16 + 1 = 17) rfl rfl ?_
    refine k_imul dX12_plants_17 (rfl : 17 + 1 = 18) ?_
    refine k_iload_n (i := 1) dX12_plants_18 (rfl : 18 + 1 = 19) rfl rfl ?_
    refine k_iadd dX12_plants_19 (rfl : 19 + 1 = 20) ?_
    refine k_istore (i := 4) dX12_plants_20 (rfl : 20 + 2 = 22) (Nat.le_of_ble_eq_true rfl) ?_
    refine k_ls (ls2 := [.ref 116, .int a1, .int a2, .int a3, .int ((8 * a2) + a1)]) rfl ?_
    refine k_iload_n (i := 3) dX12_plants_22 (rfl : 22 + 1 = 23) rfl rfl ?_
    refine k_if_eq (tgt := 48) dX12_plants_23 (rfl : 23 + 3 = 26) (by decide) (fun b23 => ?_) (fun b23 => ?_)
    · refine k_iload_n (i := 3) dX12_plants_48 (rfl : 48 + 1 = 49) rfl rfl ?_
      refine k_if_eq (tgt := 72) dX12_plants_49 (rfl : 49 + 3 = 52) (by decide) (fun b49 => ?_) (fun b49 => by exact absurd b23 b49)
      refine k_aload_n (i := 0) dX12_plants_72 (rfl : 72 + 1 = 73) rfl rfl ?_
      refine k_get 12 7 fg_X12_16 dX12_plants_73 (rfl : 73 + 3 = 76) (Nat.le_of_ble_eq_true rfl) rfl rfl ?_
      refine k_bipush (v := 12) dX12_plants_76 (rfl : 76 + 2 = 78) (by decide) ?_
      refine k_iload (i := 4) dX12_plants_78 (rfl : 78 + 2 = 80) rfl ?_
      refine k_iadd dX12_plants_80 (rfl : 80 + 1 = 81) ?_
      refine k_iload_n (i := 3) dX12_plants_81 (rfl : 81 + 1 = 82) rfl rfl ?_
      refine k_if_eq (tgt := 89) dX12_plants_82 (rfl : 82 + 3 = 85) (by decide) (fun b82 => ?_) (fun b82 => by exact absurd b23 b82)
      refine k_iconst (v := 0) dX12_plants_89 (rfl : 89 + 1 = 90) (by decide) ?_
      refine k_iast dX12_plants_90 (rfl : 90 + 1 = 91) (Nat.le_of_ble_eq_true rfl) rfl (c64_in (ic_c b5)) ?_
      refine kf_Z0 (f := (upd (x.2 0) (Int32.toNatClampNeg (12 + ((8 * a2) + a1))) 0)) rfl ?_
      refine k_aload_n (i := 0) dX12_plants_91 (rfl : 91 + 1 = 92) rfl rfl ?_
      refine k_callVd0 cv_X12_92 ⟨Nat.le_of_ble_eq_true rfl, Nat.le_of_ble_eq_true rfl⟩ (m_X12_trees) dX12_plants_92 (rfl : 92 + 3 = 95) (Nat.le_of_ble_eq_true rfl) rfl rfl rfl ⟨Nat.le_of_ble_eq_true rfl, Nat.le_of_ble_eq_true rfl⟩ ?_
      refine k_iret rfl rfl dX12_plants_95 (Nat.le_of_ble_eq_true rfl) (Nat.le_of_ble_eq_true rfl) ?_
      exact kRt_of (congrArg (fun z => some (Value.int z)) (Eq.symm (Eq.trans (if_neg (show ¬ ((f_X12_isCell a1 a2) = 0) from b5)) (if_pos (show a3 = 0 from b23))))) (congrArg (fun z => kTp a9 (kHr z z9)) (Eq.symm (Eq.trans (if_neg (show ¬ ((f_X12_isCell a1 a2) = 0) from b5)) (if_pos (show a3 = 0 from b23)))))
    · refine k_aload_n (i := 0) dX12_plants_26 (rfl : 26 + 1 = 27) rfl rfl ?_
      refine k_iload (i := 4) dX12_plants_27 (rfl : 27 + 2 = 29) rfl ?_
      refine k_callVd1 cv_X12_85 ⟨Nat.le_of_ble_eq_true rfl, Nat.le_of_ble_eq_true rfl⟩ (m_X12_standing hv) dX12_plants_29 (rfl : 29 + 3 = 32) (Nat.le_of_ble_eq_true rfl) rfl rfl rfl ⟨Nat.le_of_ble_eq_true rfl, Nat.le_of_ble_eq_true rfl⟩ ?_
      refine k_if_lt (tgt := 48) dX12_plants_32 (rfl : 32 + 3 = 35) (by decide) (fun b32 => ?_) (fun b32 => ?_)
      · refine k_iload_n (i := 3) dX12_plants_48 (rfl : 48 + 1 = 49) rfl rfl ?_
        refine k_if_eq (tgt := 72) dX12_plants_49 (rfl : 49 + 3 = 52) (by decide) (fun b49 => by exact absurd b49 b23) (fun b49 => ?_)
        refine k_aload_n (i := 0) dX12_plants_52 (rfl : 52 + 1 = 53) rfl rfl ?_
        refine k_get 12 7 fg_X12_16 dX12_plants_53 (rfl : 53 + 3 = 56) (Nat.le_of_ble_eq_true rfl) rfl rfl ?_
        refine k_iconst (v := 3) dX12_plants_56 (rfl : 56 + 1 = 57) (by decide) ?_
        refine k_ialdc (c := 3) (by decide) dX12_plants_57 (rfl : 57 + 1 = 58) (Nat.le_of_ble_eq_true rfl) rfl (vp_in_iff.mpr (by decide)) ?_
        refine k_iload (i := 4) dX12_plants_58 (rfl : 58 + 2 = 60) rfl ?_
        refine k_icmp_ne (tgt := 72) dX12_plants_60 (rfl : 60 + 3 = 63) (by decide) (fun b60 => ?_) (fun b60 => ?_)
        · refine k_aload_n (i := 0) dX12_plants_72 (rfl : 72 + 1 = 73) rfl rfl ?_
          refine k_get 12 7 fg_X12_16 dX12_plants_73 (rfl : 73 + 3 = 76) (Nat.le_of_ble_eq_true rfl) rfl rfl ?_
          refine k_bipush (v := 12) dX12_plants_76 (rfl : 76 + 2 = 78) (by decide) ?_
          refine k_iload (i := 4) dX12_plants_78 (rfl : 78 + 2 = 80) rfl ?_
          refine k_iadd dX12_plants_80 (rfl : 80 + 1 = 81) ?_
          refine k_iload_n (i := 3) dX12_plants_81 (rfl : 81 + 1 = 82) rfl rfl ?_
          refine k_if_eq (tgt := 89) dX12_plants_82 (rfl : 82 + 3 = 85) (by decide) (fun b82 => by exact absurd b82 b23) (fun b82 => ?_)
          refine k_iconst (v := 1) dX12_plants_85 (rfl : 85 + 1 = 86) (by decide) ?_
          refine k_goto (tgt := 90) dX12_plants_86 (by decide) ?_
          refine k_iast dX12_plants_90 (rfl : 90 + 1 = 91) (Nat.le_of_ble_eq_true rfl) rfl (c64_in (ic_c b5)) ?_
          refine kf_Z0 (f := (upd (x.2 0) (Int32.toNatClampNeg (12 + ((8 * a2) + a1))) 1)) rfl ?_
          refine k_aload_n (i := 0) dX12_plants_91 (rfl : 91 + 1 = 92) rfl rfl ?_
          refine k_callVd0 cv_X12_92 ⟨Nat.le_of_ble_eq_true rfl, Nat.le_of_ble_eq_true rfl⟩ (m_X12_trees) dX12_plants_92 (rfl : 92 + 3 = 95) (Nat.le_of_ble_eq_true rfl) rfl rfl rfl ⟨Nat.le_of_ble_eq_true rfl, Nat.le_of_ble_eq_true rfl⟩ ?_
          refine k_iret rfl rfl dX12_plants_95 (Nat.le_of_ble_eq_true rfl) (Nat.le_of_ble_eq_true rfl) ?_
          exact kRt_of (congrArg (fun z => some (Value.int z)) (Eq.symm (Eq.trans (if_neg (show ¬ ((f_X12_isCell a1 a2) = 0) from b5)) (Eq.trans (if_neg (show ¬ (a3 = 0) from b23)) (Eq.trans (if_pos (show (sdL (x.2 0) ((8 * a2) + a1) (Int32.toNatClampNeg ((x.2 0) 6)) 0) < 0 from b32)) (if_neg (show ¬ (((x.2 0) 3) = ((8 * a2) + a1)) from b60))))))) (congrArg (fun z => kTp a9 (kHr z z9)) (Eq.symm (Eq.trans (if_neg (show ¬ ((f_X12_isCell a1 a2) = 0) from b5)) (Eq.trans (if_neg (show ¬ (a3 = 0) from b23)) (Eq.trans (if_pos (show (sdL (x.2 0) ((8 * a2) + a1) (Int32.toNatClampNeg ((x.2 0) 6)) 0) < 0 from b32)) (if_neg (show ¬ (((x.2 0) 3) = ((8 * a2) + a1)) from b60)))))))
        · refine k_aload_n (i := 0) dX12_plants_63 (rfl : 63 + 1 = 64) rfl rfl ?_
          refine k_iconst (v := 2) dX12_plants_64 (rfl : 64 + 1 = 65) (by decide) ?_
          refine k_iconst (v := 3) dX12_plants_65 (rfl : 65 + 1 = 66) (by decide) ?_
          refine k_iload (i := 4) dX12_plants_66 (rfl : 66 + 2 = 68) rfl ?_
          refine k_callVd3 cv_X12_88 ⟨Nat.le_of_ble_eq_true rfl, Nat.le_of_ble_eq_true rfl⟩ (m_X12_refuses) dX12_plants_68 (rfl : 68 + 3 = 71) (Nat.le_of_ble_eq_true rfl) rfl rfl rfl ⟨Nat.le_of_ble_eq_true rfl, Nat.le_of_ble_eq_true rfl⟩ ?_
          refine k_iret rfl rfl dX12_plants_71 (Nat.le_of_ble_eq_true rfl) (Nat.le_of_ble_eq_true rfl) ?_
          exact kRt_of (congrArg (fun z => some (Value.int z)) (Eq.symm (Eq.trans (if_neg (show ¬ ((f_X12_isCell a1 a2) = 0) from b5)) (Eq.trans (if_neg (show ¬ (a3 = 0) from b23)) (Eq.trans (if_pos (show (sdL (x.2 0) ((8 * a2) + a1) (Int32.toNatClampNeg ((x.2 0) 6)) 0) < 0 from b32)) (if_pos (show ((x.2 0) 3) = ((8 * a2) + a1) from b60))))))) (congrArg (fun z => kTp a9 (kHr z z9)) (Eq.symm (Eq.trans (if_neg (show ¬ ((f_X12_isCell a1 a2) = 0) from b5)) (Eq.trans (if_neg (show ¬ (a3 = 0) from b23)) (Eq.trans (if_pos (show (sdL (x.2 0) ((8 * a2) + a1) (Int32.toNatClampNeg ((x.2 0) 6)) 0) < 0 from b32)) (if_pos (show ((x.2 0) 3) = ((8 * a2) + a1) from b60)))))))
      · refine k_aload_n (i := 0) dX12_plants_35 (rfl : 35 + 1 = 36) rfl rfl ?_
        refine k_iconst (v := 2) dX12_plants_36 (rfl : 36 + 1 = 37) (by decide) ?_
        refine k_iconst (v := 2) dX12_plants_37 (rfl : 37 + 1 = 38) (by decide) ?_
        refine k_aload_n (i := 0) dX12_plants_38 (rfl : 38 + 1 = 39) rfl rfl ?_
        refine k_iload (i := 4) dX12_plants_39 (rfl : 39 + 2 = 41) rfl ?_
        refine k_callVd1 cv_X12_85 ⟨Nat.le_of_ble_eq_true rfl, Nat.le_of_ble_eq_true rfl⟩ (m_X12_standing hv) dX12_plants_41 (rfl : 41 + 3 = 44) (Nat.le_of_ble_eq_true rfl) rfl rfl rfl ⟨Nat.le_of_ble_eq_true rfl, Nat.le_of_ble_eq_true rfl⟩ ?_
        refine k_callVd3 cv_X12_88 ⟨Nat.le_of_ble_eq_true rfl, Nat.le_of_ble_eq_true rfl⟩ (m_X12_refuses) dX12_plants_44 (rfl : 44 + 3 = 47) (Nat.le_of_ble_eq_true rfl) rfl rfl rfl ⟨Nat.le_of_ble_eq_true rfl, Nat.le_of_ble_eq_true rfl⟩ ?_
        refine k_iret rfl rfl dX12_plants_47 (Nat.le_of_ble_eq_true rfl) (Nat.le_of_ble_eq_true rfl) ?_
        exact kRt_of (congrArg (fun z => some (Value.int z)) (Eq.symm (Eq.trans (if_neg (show ¬ ((f_X12_isCell a1 a2) = 0) from b5)) (Eq.trans (if_neg (show ¬ (a3 = 0) from b23)) (if_neg (show ¬ ((sdL (x.2 0) ((8 * a2) + a1) (Int32.toNatClampNeg ((x.2 0) 6)) 0) < 0) from b32)))))) (congrArg (fun z => kTp a9 (kHr z z9)) (Eq.symm (Eq.trans (if_neg (show ¬ ((f_X12_isCell a1 a2) = 0) from b5)) (Eq.trans (if_neg (show ¬ (a3 = 0) from b23)) (if_neg (show ¬ ((sdL (x.2 0) ((8 * a2) + a1) (Int32.toNatClampNeg ((x.2 0) 6)) 0) < 0) from b32))))))
  · refine k_aload_n (i := 0) dX12_plants_8 (rfl : 8 + 1 = 9) rfl rfl ?_
    refine k_iconst (v := 1) dX12_plants_9 (rfl : 9 + 1 = 10) (by decide) ?_
    refine k_callVd1 cv_X12_59 ⟨Nat.le_of_ble_eq_true rfl, Nat.le_of_ble_eq_true rfl⟩ (m_X12_fail) dX12_plants_10 (rfl : 10 + 3 = 13) (Nat.le_of_ble_eq_true rfl) rfl rfl rfl ⟨Nat.le_of_ble_eq_true rfl, Nat.le_of_ble_eq_true rfl⟩ ?_
    refine k_iret rfl rfl dX12_plants_13 (Nat.le_of_ble_eq_true rfl) (Nat.le_of_ble_eq_true rfl) ?_
    exact kRt_of (congrArg (fun z => some (Value.int z)) (Eq.symm (if_pos (show (f_X12_isCell a1 a2) = 0 from b5)))) (congrArg (fun z => kTp a9 (kHr z z9)) (Eq.symm (if_pos (show (f_X12_isCell a1 a2) = 0 from b5))))
def f_X12_benches (x : kY) (a1 : Int32) (a2 : Int32) : Int32 := if (f_X12_isCell a1 a2) = 0 then (f_X12_fail x 1) else (if (f_X12_isTree (x.2 0) ((8 * a2) + a1)) = 0 then (if (sdL (x.2 0) ((8 * a2) + a1) (Int32.toNatClampNeg ((x.2 0) 6)) 0) < 0 then ((x.2 0) 3) else (f_X12_refuses x 2 2 (sdL (x.2 0) ((8 * a2) + a1) (Int32.toNatClampNeg ((x.2 0) 6)) 0))) else (f_X12_refuses x 2 1 ((8 * a2) + a1)))
def g_X12_benches (x : kY) (a1 : Int32) (a2 : Int32) : kY := if (f_X12_isCell a1 a2) = 0 then (g_X12_fail x 1) else (if (f_X12_isTree (x.2 0) ((8 * a2) + a1)) = 0 then (if (sdL (x.2 0) ((8 * a2) + a1) (Int32.toNatClampNeg ((x.2 0) 6)) 0) < 0 then (yR x 0 (upd (x.2 0) 3 ((8 * a2) + a1))) else (g_X12_refuses x 2 2 (sdL (x.2 0) ((8 * a2) + a1) (Int32.toNatClampNeg ((x.2 0) 6)) 0))) else (g_X12_refuses x 2 1 ((8 * a2) + a1)))
set_option maxRecDepth 100000 in
set_option maxHeartbeats 4000000 in
theorem m_X12_benches {x : kY} {a9 : kH} {z9 : kE × kE} {a1 : Int32} {a2 : Int32} (hv : kMv (x.2 0)) : kMet kX12_benches false 0 0 [.ref 116, .int a1, .int a2] (kTp a9 (kHr x z9)) 130 (kRt (some (.int (f_X12_benches x a1 a2))) (kTp a9 (kHr (g_X12_benches x a1 a2) z9)) 130) := by
  refine kMet.in (by decide) rfl rfl _ rfl ?_
  refine k_iload_n (i := 1) dX12_benches_0 (rfl : 0 + 1 = 1) rfl rfl ?_
  refine k_iload_n (i := 2) dX12_benches_1 (rfl : 1 + 1 = 2) rfl rfl ?_
  refine k_callSd2 cv_X12_81 ⟨Nat.le_of_ble_eq_true rfl, Nat.le_of_ble_eq_true rfl⟩ (m_X12_isCell) dX12_benches_2 (rfl : 2 + 3 = 5) rfl ⟨Nat.le_of_ble_eq_true rfl, Nat.le_of_ble_eq_true rfl⟩ ?_
  refine k_if_ne (tgt := 14) dX12_benches_5 (rfl : 5 + 3 = 8) (by decide) (fun b5 => ?_) (fun b5 => ?_)
  · refine k_bipush (v := 8) dX12_benches_14 (rfl : 14 + 2 = 16) (by decide) ?_
    refine k_iload_n (i := 2) dX12_benches_16 (rfl : 16 + 1 = 17) rfl rfl ?_
    refine k_imul dX12_benches_17 (rfl : 17 + 1 = 18) ?_
    refine k_iload_n (i := 1) dX12_benches_18 (rfl : 18 + 1 = 19) rfl rfl ?_
    refine k_iadd dX12_benches_19 (rfl : 19 + 1 = 20) ?_
    refine k_istore_n (i := 3) dX12_benches_20 (rfl : 20 + 1 = 21) rfl (Nat.le_of_ble_eq_true rfl) ?_
    refine k_ls (ls2 := [.ref 116, .int a1, .int a2, .int ((8 * a2) + a1), .retAddr 0]) rfl ?_
    refine k_aload_n (i := 0) dX12_benches_21 (rfl : 21 + 1 = 22) rfl rfl ?_
    refine k_get 12 7 fg_X12_16 dX12_benches_22 (rfl : 22 + 3 = 25) (Nat.le_of_ble_eq_true rfl) rfl rfl ?_
    refine k_iconst (v := 3) dX12_benches_25 (rfl : 25 + 1 = 26) (by decide) ?_
    refine k_ialdc (c := 3) (by decide) dX12_benches_26 (rfl : 26 + 1 = 27) (Nat.le_of_ble_eq_true rfl) rfl (vp_in_iff.mpr (by decide)) ?_
    refine k_istore (i := 4) dX12_benches_27 (rfl : 27 + 2 = 29) (Nat.le_of_ble_eq_true rfl) ?_
    refine k_ls (ls2 := [.ref 116, .int a1, .int a2, .int ((8 * a2) + a1), .int ((x.2 0) 3)]) rfl ?_
    refine k_aload_n (i := 0) dX12_benches_29 (rfl : 29 + 1 = 30) rfl rfl ?_
    refine k_iload_n (i := 3) dX12_benches_30 (rfl : 30 + 1 = 31) rfl rfl ?_
    refine k_callVd1 cv_X12_106 ⟨Nat.le_of_ble_eq_true rfl, Nat.le_of_ble_eq_true rfl⟩ (m_X12_isTree (ic_c b5)) dX12_benches_31 (rfl : 31 + 3 = 34) (Nat.le_of_ble_eq_true rfl) rfl rfl rfl ⟨Nat.le_of_ble_eq_true rfl, Nat.le_of_ble_eq_true rfl⟩ ?_
    refine k_if_eq (tgt := 45) dX12_benches_34 (rfl : 34 + 3 = 37) (by decide) (fun b34 => ?_) (fun b34 => ?_)
    · refine k_aload_n (i := 0) dX12_benches_45 (rfl : 45 + 1 = 46) rfl rfl ?_
      refine k_iload_n (i := 3) dX12_benches_46 (rfl : 46 + 1 = 47) rfl rfl ?_
      refine k_callVd1 cv_X12_85 ⟨Nat.le_of_ble_eq_true rfl, Nat.le_of_ble_eq_true rfl⟩ (m_X12_standing hv) dX12_benches_47 (rfl : 47 + 3 = 50) (Nat.le_of_ble_eq_true rfl) rfl rfl rfl ⟨Nat.le_of_ble_eq_true rfl, Nat.le_of_ble_eq_true rfl⟩ ?_
      refine k_if_lt (tgt := 65) dX12_benches_50 (rfl : 50 + 3 = 53) (by decide) (fun b50 => ?_) (fun b50 => ?_)
      · refine k_aload_n (i := 0) dX12_benches_65 (rfl : 65 + 1 = 66) rfl rfl ?_
        refine k_get 12 7 fg_X12_16 dX12_benches_66 (rfl : 66 + 3 = 69) (Nat.le_of_ble_eq_true rfl) rfl rfl ?_
        refine k_iconst (v := 3) dX12_benches_69 (rfl : 69 + 1 = 70) (by decide) ?_
        refine k_iload_n (i := 3) dX12_benches_70 (rfl : 70 + 1 = 71) rfl rfl ?_
        refine k_iastc (c := 3) (by decide) dX12_benches_71 (rfl : 71 + 1 = 72) (Nat.le_of_ble_eq_true rfl) rfl (vp_in_iff.mpr (by decide)) ?_
        refine kf_Z0 (f := (upd (x.2 0) 3 ((8 * a2) + a1))) rfl ?_
        refine k_iload (i := 4) dX12_benches_72 (rfl : 72 + 2 = 74) rfl ?_
        refine k_iret rfl rfl dX12_benches_74 (Nat.le_of_ble_eq_true rfl) (Nat.le_of_ble_eq_true rfl) ?_
        exact kRt_of (congrArg (fun z => some (Value.int z)) (Eq.symm (Eq.trans (if_neg (show ¬ ((f_X12_isCell a1 a2) = 0) from b5)) (Eq.trans (if_pos (show (f_X12_isTree (x.2 0) ((8 * a2) + a1)) = 0 from b34)) (if_pos (show (sdL (x.2 0) ((8 * a2) + a1) (Int32.toNatClampNeg ((x.2 0) 6)) 0) < 0 from b50)))))) (congrArg (fun z => kTp a9 (kHr z z9)) (Eq.symm (Eq.trans (if_neg (show ¬ ((f_X12_isCell a1 a2) = 0) from b5)) (Eq.trans (if_pos (show (f_X12_isTree (x.2 0) ((8 * a2) + a1)) = 0 from b34)) (if_pos (show (sdL (x.2 0) ((8 * a2) + a1) (Int32.toNatClampNeg ((x.2 0) 6)) 0) < 0 from b50))))))
      · refine k_aload_n (i := 0) dX12_benches_53 (rfl : 53 + 1 = 54) rfl rfl ?_
        refine k_iconst (v := 2) dX12_benches_54 (rfl : 54 + 1 = 55) (by decide) ?_
        refine k_iconst (v := 2) dX12_benches_55 (rfl : 55 + 1 = 56) (by decide) ?_
        refine k_aload_n (i := 0) dX12_benches_56 (rfl : 56 + 1 = 57) rfl rfl ?_
        refine k_iload_n (i := 3) dX12_benches_57 (rfl : 57 + 1 = 58) rfl rfl ?_
        refine k_callVd1 cv_X12_85 ⟨Nat.le_of_ble_eq_true rfl, Nat.le_of_ble_eq_true rfl⟩ (m_X12_standing hv) dX12_benches_58 (rfl : 58 + 3 = 61) (Nat.le_of_ble_eq_true rfl) rfl rfl rfl ⟨Nat.le_of_ble_eq_true rfl, Nat.le_of_ble_eq_true rfl⟩ ?_
        refine k_callVd3 cv_X12_88 ⟨Nat.le_of_ble_eq_true rfl, Nat.le_of_ble_eq_true rfl⟩ (m_X12_refuses) dX12_benches_61 (rfl : 61 + 3 = 64) (Nat.le_of_ble_eq_true rfl) rfl rfl rfl ⟨Nat.le_of_ble_eq_true rfl, Nat.le_of_ble_eq_true rfl⟩ ?_
        refine k_iret rfl rfl dX12_benches_64 (Nat.le_of_ble_eq_true rfl) (Nat.le_of_ble_eq_true rfl) ?_
        exact kRt_of (congrArg (fun z => some (Value.int z)) (Eq.symm (Eq.trans (if_neg (show ¬ ((f_X12_isCell a1 a2) = 0) from b5)) (Eq.trans (if_pos (show (f_X12_isTree (x.2 0) ((8 * a2) + a1)) = 0 from b34)) (if_neg (show ¬ ((sdL (x.2 0) ((8 * a2) + a1) (Int32.toNatClampNeg ((x.2 0) 6)) 0) < 0) from b50)))))) (congrArg (fun z => kTp a9 (kHr z z9)) (Eq.symm (Eq.trans (if_neg (show ¬ ((f_X12_isCell a1 a2) = 0) from b5)) (Eq.trans (if_pos (show (f_X12_isTree (x.2 0) ((8 * a2) + a1)) = 0 from b34)) (if_neg (show ¬ ((sdL (x.2 0) ((8 * a2) + a1) (Int32.toNatClampNeg ((x.2 0) 6)) 0) < 0) from b50))))))
    · refine k_aload_n (i := 0) dX12_benches_37 (rfl : 37 + 1 = 38) rfl rfl ?_
      refine k_iconst (v := 2) dX12_benches_38 (rfl : 38 + 1 = 39) (by decide) ?_
      refine k_iconst (v := 1) dX12_benches_39 (rfl : 39 + 1 = 40) (by decide) ?_
      refine k_iload_n (i := 3) dX12_benches_40 (rfl : 40 + 1 = 41) rfl rfl ?_
      refine k_callVd3 cv_X12_88 ⟨Nat.le_of_ble_eq_true rfl, Nat.le_of_ble_eq_true rfl⟩ (m_X12_refuses) dX12_benches_41 (rfl : 41 + 3 = 44) (Nat.le_of_ble_eq_true rfl) rfl rfl rfl ⟨Nat.le_of_ble_eq_true rfl, Nat.le_of_ble_eq_true rfl⟩ ?_
      refine k_iret rfl rfl dX12_benches_44 (Nat.le_of_ble_eq_true rfl) (Nat.le_of_ble_eq_true rfl) ?_
      exact kRt_of (congrArg (fun z => some (Value.int z)) (Eq.symm (Eq.trans (if_neg (show ¬ ((f_X12_isCell a1 a2) = 0) from b5)) (if_neg (show ¬ ((f_X12_isTree (x.2 0) ((8 * a2) + a1)) = 0) from b34))))) (congrArg (fun z => kTp a9 (kHr z z9)) (Eq.symm (Eq.trans (if_neg (show ¬ ((f_X12_isCell a1 a2) = 0) from b5)) (if_neg (show ¬ ((f_X12_isTree (x.2 0) ((8 * a2) + a1)) = 0) from b34)))))
  · refine k_aload_n (i := 0) dX12_benches_8 (rfl : 8 + 1 = 9) rfl rfl ?_
    refine k_iconst (v := 1) dX12_benches_9 (rfl : 9 + 1 = 10) (by decide) ?_
    refine k_callVd1 cv_X12_59 ⟨Nat.le_of_ble_eq_true rfl, Nat.le_of_ble_eq_true rfl⟩ (m_X12_fail) dX12_benches_10 (rfl : 10 + 3 = 13) (Nat.le_of_ble_eq_true rfl) rfl rfl rfl ⟨Nat.le_of_ble_eq_true rfl, Nat.le_of_ble_eq_true rfl⟩ ?_
    refine k_iret rfl rfl dX12_benches_13 (Nat.le_of_ble_eq_true rfl) (Nat.le_of_ble_eq_true rfl) ?_
    exact kRt_of (congrArg (fun z => some (Value.int z)) (Eq.symm (if_pos (show (f_X12_isCell a1 a2) = 0 from b5)))) (congrArg (fun z => kTp a9 (kHr z z9)) (Eq.symm (if_pos (show (f_X12_isCell a1 a2) = 0 from b5))))
def f_X12_blows (x : kY) (a1 : Int32) (a2 : Int32) : Int32 := if (f_X12_isIn a1 0 7) = 0 then (f_X12_fail x 1) else (if (f_X12_isIn a2 0 3) = 0 then (f_X12_fail x 1) else ((10 * ((x.2 0) 4)) + ((x.2 0) 5)))
def g_X12_blows (x : kY) (a1 : Int32) (a2 : Int32) : kY := if (f_X12_isIn a1 0 7) = 0 then (g_X12_fail x 1) else (if (f_X12_isIn a2 0 3) = 0 then (g_X12_fail x 1) else (yR (yR x 0 (upd (x.2 0) 4 a1)) 0 (upd (upd (x.2 0) 4 a1) 5 a2)))
set_option maxRecDepth 100000 in
set_option maxHeartbeats 4000000 in
theorem m_X12_blows {x : kY} {a9 : kH} {z9 : kE × kE} {a1 : Int32} {a2 : Int32} : kMet kX12_blows false 0 0 [.ref 116, .int a1, .int a2] (kTp a9 (kHr x z9)) 130 (kRt (some (.int (f_X12_blows x a1 a2))) (kTp a9 (kHr (g_X12_blows x a1 a2) z9)) 130) := by
  refine kMet.in (by decide) rfl rfl _ rfl ?_
  refine k_iload_n (i := 1) dX12_blows_0 (rfl : 0 + 1 = 1) rfl rfl ?_
  refine k_iconst (v := 0) dX12_blows_1 (rfl : 1 + 1 = 2) (by decide) ?_
  refine k_bipush (v := 7) dX12_blows_2 (rfl : 2 + 2 = 4) (by decide) ?_
  refine k_callSd3 cv_X12_70 ⟨Nat.le_of_ble_eq_true rfl, Nat.le_of_ble_eq_true rfl⟩ (m_X12_isIn) dX12_blows_4 (rfl : 4 + 3 = 7) rfl ⟨Nat.le_of_ble_eq_true rfl, Nat.le_of_ble_eq_true rfl⟩ ?_
  refine k_if_eq (tgt := 19) dX12_blows_7 (rfl : 7 + 3 = 10) (by decide) (fun b7 => ?_) (fun b7 => ?_)
  · refine k_aload_n (i := 0) dX12_blows_19 (rfl : 19 + 1 = 20) rfl rfl ?_
    refine k_iconst (v := 1) dX12_blows_20 (rfl : 20 + 1 = 21) (by decide) ?_
    refine k_callVd1 cv_X12_59 ⟨Nat.le_of_ble_eq_true rfl, Nat.le_of_ble_eq_true rfl⟩ (m_X12_fail) dX12_blows_21 (rfl : 21 + 3 = 24) (Nat.le_of_ble_eq_true rfl) rfl rfl rfl ⟨Nat.le_of_ble_eq_true rfl, Nat.le_of_ble_eq_true rfl⟩ ?_
    refine k_iret rfl rfl dX12_blows_24 (Nat.le_of_ble_eq_true rfl) (Nat.le_of_ble_eq_true rfl) ?_
    exact kRt_of (congrArg (fun z => some (Value.int z)) (Eq.symm (if_pos (show (f_X12_isIn a1 0 7) = 0 from b7)))) (congrArg (fun z => kTp a9 (kHr z z9)) (Eq.symm (if_pos (show (f_X12_isIn a1 0 7) = 0 from b7))))
  · refine k_iload_n (i := 2) dX12_blows_10 (rfl : 10 + 1 = 11) rfl rfl ?_
    refine k_iconst (v := 0) dX12_blows_11 (rfl : 11 + 1 = 12) (by decide) ?_
    refine k_iconst (v := 3) dX12_blows_12 (rfl : 12 + 1 = 13) (by decide) ?_
    refine k_callSd3 cv_X12_70 ⟨Nat.le_of_ble_eq_true rfl, Nat.le_of_ble_eq_true rfl⟩ (m_X12_isIn) dX12_blows_13 (rfl : 13 + 3 = 16) rfl ⟨Nat.le_of_ble_eq_true rfl, Nat.le_of_ble_eq_true rfl⟩ ?_
    refine k_if_ne (tgt := 25) dX12_blows_16 (rfl : 16 + 3 = 19) (by decide) (fun b16 => ?_) (fun b16 => ?_)
    · refine k_bipush (v := 10) dX12_blows_25 (rfl : 25 + 2 = 27) (by decide) ?_
      refine k_aload_n (i := 0) dX12_blows_27 (rfl : 27 + 1 = 28) rfl rfl ?_
      refine k_get 12 7 fg_X12_16 dX12_blows_28 (rfl : 28 + 3 = 31) (Nat.le_of_ble_eq_true rfl) rfl rfl ?_
      refine k_iconst (v := 4) dX12_blows_31 (rfl : 31 + 1 = 32) (by decide) ?_
      refine k_ialdc (c := 4) (by decide) dX12_blows_32 (rfl : 32 + 1 = 33) (Nat.le_of_ble_eq_true rfl) rfl (vp_in_iff.mpr (by decide)) ?_
      refine k_imul dX12_blows_33 (rfl : 33 + 1 = 34) ?_
      refine k_aload_n (i := 0) dX12_blows_34 (rfl : 34 + 1 = 35) rfl rfl ?_
      refine k_get 12 7 fg_X12_16 dX12_blows_35 (rfl : 35 + 3 = 38) (Nat.le_of_ble_eq_true rfl) rfl rfl ?_
      refine k_iconst (v := 5) dX12_blows_38 (rfl : 38 + 1 = 39) (by decide) ?_
      refine k_ialdc (c := 5) (by decide) dX12_blows_39 (rfl : 39 + 1 = 40) (Nat.le_of_ble_eq_true rfl) rfl (vp_in_iff.mpr (by decide)) ?_
      refine k_iadd dX12_blows_40 (rfl : 40 + 1 = 41) ?_
      refine k_istore_n (i := 3) dX12_blows_41 (rfl : 41 + 1 = 42) rfl (Nat.le_of_ble_eq_true rfl) ?_
      refine k_ls (ls2 := [.ref 116, .int a1, .int a2, .int ((10 * ((x.2 0) 4)) + ((x.2 0) 5))]) rfl ?_
      refine k_aload_n (i := 0) dX12_blows_42 (rfl : 42 + 1 = 43) rfl rfl ?_
      refine k_get 12 7 fg_X12_16 dX12_blows_43 (rfl : 43 + 3 = 46) (Nat.le_of_ble_eq_true rfl) rfl rfl ?_
      refine k_iconst (v := 4) dX12_blows_46 (rfl : 46 + 1 = 47) (by decide) ?_
      refine k_iload_n (i := 1) dX12_blows_47 (rfl : 47 + 1 = 48) rfl rfl ?_
      refine k_iastc (c := 4) (by decide) dX12_blows_48 (rfl : 48 + 1 = 49) (Nat.le_of_ble_eq_true rfl) rfl (vp_in_iff.mpr (by decide)) ?_
      refine kf_Z0 (f := (upd (x.2 0) 4 a1)) rfl ?_
      refine k_aload_n (i := 0) dX12_blows_49 (rfl : 49 + 1 = 50) rfl rfl ?_
      refine k_get 12 7 fg_X12_16 dX12_blows_50 (rfl : 50 + 3 = 53) (Nat.le_of_ble_eq_true rfl) rfl rfl ?_
      refine k_iconst (v := 5) dX12_blows_53 (rfl : 53 + 1 = 54) (by decide) ?_
      refine k_iload_n (i := 2) dX12_blows_54 (rfl : 54 + 1 = 55) rfl rfl ?_
      refine k_iastc (c := 5) (by decide) dX12_blows_55 (rfl : 55 + 1 = 56) (Nat.le_of_ble_eq_true rfl) rfl (vp_in_iff.mpr (by decide)) ?_
      refine kf_Z0 (f := (upd (upd (x.2 0) 4 a1) 5 a2)) rfl ?_
      refine k_iload_n (i := 3) dX12_blows_56 (rfl : 56 + 1 = 57) rfl rfl ?_
      refine k_iret rfl rfl dX12_blows_57 (Nat.le_of_ble_eq_true rfl) (Nat.le_of_ble_eq_true rfl) ?_
      exact kRt_of (congrArg (fun z => some (Value.int z)) (Eq.symm (Eq.trans (if_neg (show ¬ ((f_X12_isIn a1 0 7) = 0) from b7)) (if_neg (show ¬ ((f_X12_isIn a2 0 3) = 0) from b16))))) (congrArg (fun z => kTp a9 (kHr z z9)) (Eq.symm (Eq.trans (if_neg (show ¬ ((f_X12_isIn a1 0 7) = 0) from b7)) (if_neg (show ¬ ((f_X12_isIn a2 0 3) = 0) from b16)))))
    · refine k_aload_n (i := 0) dX12_blows_19 (rfl : 19 + 1 = 20) rfl rfl ?_
      refine k_iconst (v := 1) dX12_blows_20 (rfl : 20 + 1 = 21) (by decide) ?_
      refine k_callVd1 cv_X12_59 ⟨Nat.le_of_ble_eq_true rfl, Nat.le_of_ble_eq_true rfl⟩ (m_X12_fail) dX12_blows_21 (rfl : 21 + 3 = 24) (Nat.le_of_ble_eq_true rfl) rfl rfl rfl ⟨Nat.le_of_ble_eq_true rfl, Nat.le_of_ble_eq_true rfl⟩ ?_
      refine k_iret rfl rfl dX12_blows_24 (Nat.le_of_ble_eq_true rfl) (Nat.le_of_ble_eq_true rfl) ?_
      exact kRt_of (congrArg (fun z => some (Value.int z)) (Eq.symm (Eq.trans (if_neg (show ¬ ((f_X12_isIn a1 0 7) = 0) from b7)) (if_pos (show (f_X12_isIn a2 0 3) = 0 from b16))))) (congrArg (fun z => kTp a9 (kHr z z9)) (Eq.symm (Eq.trans (if_neg (show ¬ ((f_X12_isIn a1 0 7) = 0) from b7)) (if_pos (show (f_X12_isIn a2 0 3) = 0 from b16)))))
def f_X12_mayStand (x : kY) (a1 : Int32) (a2 : Int32) (a3 : Int32) : Int32 := if (f_X12_isTree (x.2 0) a1) = 0 then (if (sdL (x.2 0) a1 (Int32.toNatClampNeg ((x.2 0) 6)) 0) < 0 then (if ((x.2 0) 3) = a1 then (if a3 = 0 then 1 else 0) else 1) else (if (sdL (x.2 0) a1 (Int32.toNatClampNeg ((x.2 0) 6)) 0) = a2 then (if ((x.2 0) 3) = a1 then (if a3 = 0 then 1 else 0) else 1) else (if a3 = 0 then 1 else 0))) else (if a3 = 0 then 1 else (if (sdL (x.2 0) a1 (Int32.toNatClampNeg ((x.2 0) 6)) 0) < 0 then 0 else (if (sdL (x.2 0) a1 (Int32.toNatClampNeg ((x.2 0) 6)) 0) = a2 then 0 else 0)))
def g_X12_mayStand (x : kY) (a1 : Int32) (a2 : Int32) (a3 : Int32) : kY := if (f_X12_isTree (x.2 0) a1) = 0 then (if (sdL (x.2 0) a1 (Int32.toNatClampNeg ((x.2 0) 6)) 0) < 0 then (if ((x.2 0) 3) = a1 then (if a3 = 0 then (yS x 0 a3) else (g_X12_refuses (yS x 0 a3) a3 3 a1)) else (yS x 0 0)) else (if (sdL (x.2 0) a1 (Int32.toNatClampNeg ((x.2 0) 6)) 0) = a2 then (if ((x.2 0) 3) = a1 then (if a3 = 0 then (yS x 0 a3) else (g_X12_refuses (yS x 0 a3) a3 3 a1)) else (yS x 0 0)) else (if a3 = 0 then (yS x 0 a3) else (g_X12_refuses (yS x 0 a3) a3 2 (sdL (x.2 0) a1 (Int32.toNatClampNeg ((x.2 0) 6)) 0))))) else (if a3 = 0 then (yS x 0 a3) else (if (sdL (x.2 0) a1 (Int32.toNatClampNeg ((x.2 0) 6)) 0) < 0 then (g_X12_refuses (yS x 0 a3) a3 1 a1) else (if (sdL (x.2 0) a1 (Int32.toNatClampNeg ((x.2 0) 6)) 0) = a2 then (g_X12_refuses (yS x 0 a3) a3 1 a1) else (g_X12_refuses (yS x 0 a3) a3 1 a1))))
set_option maxRecDepth 100000 in
set_option maxHeartbeats 4000000 in
theorem m_X12_mayStand {x : kY} {a9 : kH} {z9 : kE × kE} {a1 : Int32} {a2 : Int32} {a3 : Int32} (hc : kC64 a1) (hv : kMv (x.2 0)) : kMet kX12_mayStand false 0 0 [.ref 116, .int a1, .int a2, .int a3] (kTp a9 (kHr x z9)) 130 (kRt (some (.int (f_X12_mayStand x a1 a2 a3))) (kTp a9 (kHr (g_X12_mayStand x a1 a2 a3) z9)) 130) := by
  refine kMet.in (by decide) rfl rfl _ rfl ?_
  refine k_aload_n (i := 0) dX12_mayStand_0 (rfl : 0 + 1 = 1) rfl rfl ?_
  refine k_aload_n (i := 0) dX12_mayStand_1 (rfl : 1 + 1 = 2) rfl rfl ?_
  refine k_iload_n (i := 1) dX12_mayStand_2 (rfl : 2 + 1 = 3) rfl rfl ?_
  refine k_callVd1 cv_X12_106 ⟨Nat.le_of_ble_eq_true rfl, Nat.le_of_ble_eq_true rfl⟩ (m_X12_isTree hc) dX12_mayStand_3 (rfl : 3 + 3 = 6) (Nat.le_of_ble_eq_true rfl) rfl rfl rfl ⟨Nat.le_of_ble_eq_true rfl, Nat.le_of_ble_eq_true rfl⟩ ?_
  refine k_if_ne (tgt := 36) dX12_mayStand_6 (rfl : 6 + 3 = 9) (by decide) (fun b6 => ?_) (fun b6 => ?_)
  · refine k_iload_n (i := 3) dX12_mayStand_36 (rfl : 36 + 1 = 37) rfl rfl ?_
    refine k_goto (tgt := 41) dX12_mayStand_37 (by decide) ?_
    refine k_put 12 0 fp_X12_50 dX12_mayStand_41 (rfl : 41 + 3 = 44) (Nat.le_of_ble_eq_true rfl) rfl (Nat.le_of_ble_eq_true rfl) rfl rfl ?_
    refine kf_Y0 (v := a3) rfl ?_
    refine k_aload_n (i := 0) dX12_mayStand_44 (rfl : 44 + 1 = 45) rfl rfl ?_
    refine k_get 12 0 fg_X12_50 dX12_mayStand_45 (rfl : 45 + 3 = 48) (Nat.le_of_ble_eq_true rfl) rfl rfl ?_
    refine k_if_ne (tgt := 53) dX12_mayStand_48 (rfl : 48 + 3 = 51) (by decide) (fun b48 => ?_) (fun b48 => ?_)
    · refine k_aload_n (i := 0) dX12_mayStand_53 (rfl : 53 + 1 = 54) rfl rfl ?_
      refine k_iload_n (i := 1) dX12_mayStand_54 (rfl : 54 + 1 = 55) rfl rfl ?_
      refine k_callVd1 cv_X12_85 ⟨Nat.le_of_ble_eq_true rfl, Nat.le_of_ble_eq_true rfl⟩ (m_X12_standing hv) dX12_mayStand_55 (rfl : 55 + 3 = 58) (Nat.le_of_ble_eq_true rfl) rfl rfl rfl ⟨Nat.le_of_ble_eq_true rfl, Nat.le_of_ble_eq_true rfl⟩ ?_
      refine k_if_lt (tgt := 74) dX12_mayStand_58 (rfl : 58 + 3 = 61) (by decide) (fun b58 => ?_) (fun b58 => ?_)
      · refine k_iconst (v := 0) dX12_mayStand_74 (rfl : 74 + 1 = 75) (by decide) ?_
        refine k_istore (i := 4) dX12_mayStand_75 (rfl : 75 + 2 = 77) (Nat.le_of_ble_eq_true rfl) ?_
        refine k_ls (ls2 := [.ref 116, .int a1, .int a2, .int a3, .int 0, .retAddr 0]) rfl ?_
        refine k_aload_n (i := 0) dX12_mayStand_77 (rfl : 77 + 1 = 78) rfl rfl ?_
        refine k_iload_n (i := 3) dX12_mayStand_78 (rfl : 78 + 1 = 79) rfl rfl ?_
        refine k_aload_n (i := 0) dX12_mayStand_79 (rfl : 79 + 1 = 80) rfl rfl ?_
        refine k_iload_n (i := 1) dX12_mayStand_80 (rfl : 80 + 1 = 81) rfl rfl ?_
        refine k_callVd1 cv_X12_106 ⟨Nat.le_of_ble_eq_true rfl, Nat.le_of_ble_eq_true rfl⟩ (m_X12_isTree hc) dX12_mayStand_81 (rfl : 81 + 3 = 84) (Nat.le_of_ble_eq_true rfl) rfl rfl rfl ⟨Nat.le_of_ble_eq_true rfl, Nat.le_of_ble_eq_true rfl⟩ ?_
        refine k_if_eq (tgt := 91) dX12_mayStand_84 (rfl : 84 + 3 = 87) (by decide) (fun b84 => by exact absurd b84 b6) (fun b84 => ?_)
        refine k_iconst (v := 1) dX12_mayStand_87 (rfl : 87 + 1 = 88) (by decide) ?_
        refine k_goto (tgt := 101) dX12_mayStand_88 (by decide) ?_
        refine k_aload_n (i := 0) dX12_mayStand_101 (rfl : 101 + 1 = 102) rfl rfl ?_
        refine k_iload_n (i := 1) dX12_mayStand_102 (rfl : 102 + 1 = 103) rfl rfl ?_
        refine k_callVd1 cv_X12_106 ⟨Nat.le_of_ble_eq_true rfl, Nat.le_of_ble_eq_true rfl⟩ (m_X12_isTree hc) dX12_mayStand_103 (rfl : 103 + 3 = 106) (Nat.le_of_ble_eq_true rfl) rfl rfl rfl ⟨Nat.le_of_ble_eq_true rfl, Nat.le_of_ble_eq_true rfl⟩ ?_
        refine k_if_ne (tgt := 122) dX12_mayStand_106 (rfl : 106 + 3 = 109) (by decide) (fun b106 => ?_) (fun b106 => by exact absurd b106 b6)
        refine k_iload_n (i := 1) dX12_mayStand_122 (rfl : 122 + 1 = 123) rfl rfl ?_
        refine k_callVd3 cv_X12_88 ⟨Nat.le_of_ble_eq_true rfl, Nat.le_of_ble_eq_true rfl⟩ (m_X12_refuses) dX12_mayStand_123 (rfl : 123 + 3 = 126) (Nat.le_of_ble_eq_true rfl) rfl rfl rfl ⟨Nat.le_of_ble_eq_true rfl, Nat.le_of_ble_eq_true rfl⟩ ?_
        refine k_istore (i := 5) dX12_mayStand_126 (rfl : 126 + 2 = 128) (Nat.le_of_ble_eq_true rfl) ?_
        refine k_ls (ls2 := [.ref 116, .int a1, .int a2, .int a3, .int 0, .int (f_X12_refuses (yS x 0 a3) a3 1 a1)]) rfl ?_
        refine k_iconst (v := 0) dX12_mayStand_128 (rfl : 128 + 1 = 129) (by decide) ?_
        refine k_iret rfl rfl dX12_mayStand_129 (Nat.le_of_ble_eq_true rfl) (Nat.le_of_ble_eq_true rfl) ?_
        exact kRt_of (congrArg (fun z => some (Value.int z)) (Eq.symm (Eq.trans (if_neg (show ¬ ((f_X12_isTree (x.2 0) a1) = 0) from b6)) (Eq.trans (if_neg (show ¬ (a3 = 0) from b48)) (if_pos (show (sdL (x.2 0) a1 (Int32.toNatClampNeg ((x.2 0) 6)) 0) < 0 from b58)))))) (congrArg (fun z => kTp a9 (kHr z z9)) (Eq.symm (Eq.trans (if_neg (show ¬ ((f_X12_isTree (x.2 0) a1) = 0) from b6)) (Eq.trans (if_neg (show ¬ (a3 = 0) from b48)) (if_pos (show (sdL (x.2 0) a1 (Int32.toNatClampNeg ((x.2 0) 6)) 0) < 0 from b58))))))
      · refine k_aload_n (i := 0) dX12_mayStand_61 (rfl : 61 + 1 = 62) rfl rfl ?_
        refine k_iload_n (i := 1) dX12_mayStand_62 (rfl : 62 + 1 = 63) rfl rfl ?_
        refine k_callVd1 cv_X12_85 ⟨Nat.le_of_ble_eq_true rfl, Nat.le_of_ble_eq_true rfl⟩ (m_X12_standing hv) dX12_mayStand_63 (rfl : 63 + 3 = 66) (Nat.le_of_ble_eq_true rfl) rfl rfl rfl ⟨Nat.le_of_ble_eq_true rfl, Nat.le_of_ble_eq_true rfl⟩ ?_
        refine k_iload_n (i := 2) dX12_mayStand_66 (rfl : 66 + 1 = 67) rfl rfl ?_
        refine k_icmp_eq (tgt := 74) dX12_mayStand_67 (rfl : 67 + 3 = 70) (by decide) (fun b67 => ?_) (fun b67 => ?_)
        · refine k_iconst (v := 0) dX12_mayStand_74 (rfl : 74 + 1 = 75) (by decide) ?_
          refine k_istore (i := 4) dX12_mayStand_75 (rfl : 75 + 2 = 77) (Nat.le_of_ble_eq_true rfl) ?_
          refine k_ls (ls2 := [.ref 116, .int a1, .int a2, .int a3, .int 0, .retAddr 0]) rfl ?_
          refine k_aload_n (i := 0) dX12_mayStand_77 (rfl : 77 + 1 = 78) rfl rfl ?_
          refine k_iload_n (i := 3) dX12_mayStand_78 (rfl : 78 + 1 = 79) rfl rfl ?_
          refine k_aload_n (i := 0) dX12_mayStand_79 (rfl : 79 + 1 = 80) rfl rfl ?_
          refine k_iload_n (i := 1) dX12_mayStand_80 (rfl : 80 + 1 = 81) rfl rfl ?_
          refine k_callVd1 cv_X12_106 ⟨Nat.le_of_ble_eq_true rfl, Nat.le_of_ble_eq_true rfl⟩ (m_X12_isTree hc) dX12_mayStand_81 (rfl : 81 + 3 = 84) (Nat.le_of_ble_eq_true rfl) rfl rfl rfl ⟨Nat.le_of_ble_eq_true rfl, Nat.le_of_ble_eq_true rfl⟩ ?_
          refine k_if_eq (tgt := 91) dX12_mayStand_84 (rfl : 84 + 3 = 87) (by decide) (fun b84 => by exact absurd b84 b6) (fun b84 => ?_)
          refine k_iconst (v := 1) dX12_mayStand_87 (rfl : 87 + 1 = 88) (by decide) ?_
          refine k_goto (tgt := 101) dX12_mayStand_88 (by decide) ?_
          refine k_aload_n (i := 0) dX12_mayStand_101 (rfl : 101 + 1 = 102) rfl rfl ?_
          refine k_iload_n (i := 1) dX12_mayStand_102 (rfl : 102 + 1 = 103) rfl rfl ?_
          refine k_callVd1 cv_X12_106 ⟨Nat.le_of_ble_eq_true rfl, Nat.le_of_ble_eq_true rfl⟩ (m_X12_isTree hc) dX12_mayStand_103 (rfl : 103 + 3 = 106) (Nat.le_of_ble_eq_true rfl) rfl rfl rfl ⟨Nat.le_of_ble_eq_true rfl, Nat.le_of_ble_eq_true rfl⟩ ?_
          refine k_if_ne (tgt := 122) dX12_mayStand_106 (rfl : 106 + 3 = 109) (by decide) (fun b106 => ?_) (fun b106 => by exact absurd b106 b6)
          refine k_iload_n (i := 1) dX12_mayStand_122 (rfl : 122 + 1 = 123) rfl rfl ?_
          refine k_callVd3 cv_X12_88 ⟨Nat.le_of_ble_eq_true rfl, Nat.le_of_ble_eq_true rfl⟩ (m_X12_refuses) dX12_mayStand_123 (rfl : 123 + 3 = 126) (Nat.le_of_ble_eq_true rfl) rfl rfl rfl ⟨Nat.le_of_ble_eq_true rfl, Nat.le_of_ble_eq_true rfl⟩ ?_
          refine k_istore (i := 5) dX12_mayStand_126 (rfl : 126 + 2 = 128) (Nat.le_of_ble_eq_true rfl) ?_
          refine k_ls (ls2 := [.ref 116, .int a1, .int a2, .int a3, .int 0, .int (f_X12_refuses (yS x 0 a3) a3 1 a1)]) rfl ?_
          refine k_iconst (v := 0) dX12_mayStand_128 (rfl : 128 + 1 = 129) (by decide) ?_
          refine k_iret rfl rfl dX12_mayStand_129 (Nat.le_of_ble_eq_true rfl) (Nat.le_of_ble_eq_true rfl) ?_
          exact kRt_of (congrArg (fun z => some (Value.int z)) (Eq.symm (Eq.trans (if_neg (show ¬ ((f_X12_isTree (x.2 0) a1) = 0) from b6)) (Eq.trans (if_neg (show ¬ (a3 = 0) from b48)) (Eq.trans (if_neg (show ¬ ((sdL (x.2 0) a1 (Int32.toNatClampNeg ((x.2 0) 6)) 0) < 0) from b58)) (if_pos (show (sdL (x.2 0) a1 (Int32.toNatClampNeg ((x.2 0) 6)) 0) = a2 from b67))))))) (congrArg (fun z => kTp a9 (kHr z z9)) (Eq.symm (Eq.trans (if_neg (show ¬ ((f_X12_isTree (x.2 0) a1) = 0) from b6)) (Eq.trans (if_neg (show ¬ (a3 = 0) from b48)) (Eq.trans (if_neg (show ¬ ((sdL (x.2 0) a1 (Int32.toNatClampNeg ((x.2 0) 6)) 0) < 0) from b58)) (if_pos (show (sdL (x.2 0) a1 (Int32.toNatClampNeg ((x.2 0) 6)) 0) = a2 from b67)))))))
        · refine k_iconst (v := 1) dX12_mayStand_70 (rfl : 70 + 1 = 71) (by decide) ?_
          refine k_goto (tgt := 75) dX12_mayStand_71 (by decide) ?_
          refine k_istore (i := 4) dX12_mayStand_75 (rfl : 75 + 2 = 77) (Nat.le_of_ble_eq_true rfl) ?_
          refine k_ls (ls2 := [.ref 116, .int a1, .int a2, .int a3, .int 1, .retAddr 0]) rfl ?_
          refine k_aload_n (i := 0) dX12_mayStand_77 (rfl : 77 + 1 = 78) rfl rfl ?_
          refine k_iload_n (i := 3) dX12_mayStand_78 (rfl : 78 + 1 = 79) rfl rfl ?_
          refine k_aload_n (i := 0) dX12_mayStand_79 (rfl : 79 + 1 = 80) rfl rfl ?_
          refine k_iload_n (i := 1) dX12_mayStand_80 (rfl : 80 + 1 = 81) rfl rfl ?_
          refine k_callVd1 cv_X12_106 ⟨Nat.le_of_ble_eq_true rfl, Nat.le_of_ble_eq_true rfl⟩ (m_X12_isTree hc) dX12_mayStand_81 (rfl : 81 + 3 = 84) (Nat.le_of_ble_eq_true rfl) rfl rfl rfl ⟨Nat.le_of_ble_eq_true rfl, Nat.le_of_ble_eq_true rfl⟩ ?_
          refine k_if_eq (tgt := 91) dX12_mayStand_84 (rfl : 84 + 3 = 87) (by decide) (fun b84 => by exact absurd b84 b6) (fun b84 => ?_)
          refine k_iconst (v := 1) dX12_mayStand_87 (rfl : 87 + 1 = 88) (by decide) ?_
          refine k_goto (tgt := 101) dX12_mayStand_88 (by decide) ?_
          refine k_aload_n (i := 0) dX12_mayStand_101 (rfl : 101 + 1 = 102) rfl rfl ?_
          refine k_iload_n (i := 1) dX12_mayStand_102 (rfl : 102 + 1 = 103) rfl rfl ?_
          refine k_callVd1 cv_X12_106 ⟨Nat.le_of_ble_eq_true rfl, Nat.le_of_ble_eq_true rfl⟩ (m_X12_isTree hc) dX12_mayStand_103 (rfl : 103 + 3 = 106) (Nat.le_of_ble_eq_true rfl) rfl rfl rfl ⟨Nat.le_of_ble_eq_true rfl, Nat.le_of_ble_eq_true rfl⟩ ?_
          refine k_if_ne (tgt := 122) dX12_mayStand_106 (rfl : 106 + 3 = 109) (by decide) (fun b106 => ?_) (fun b106 => by exact absurd b106 b6)
          refine k_iload_n (i := 1) dX12_mayStand_122 (rfl : 122 + 1 = 123) rfl rfl ?_
          refine k_callVd3 cv_X12_88 ⟨Nat.le_of_ble_eq_true rfl, Nat.le_of_ble_eq_true rfl⟩ (m_X12_refuses) dX12_mayStand_123 (rfl : 123 + 3 = 126) (Nat.le_of_ble_eq_true rfl) rfl rfl rfl ⟨Nat.le_of_ble_eq_true rfl, Nat.le_of_ble_eq_true rfl⟩ ?_
          refine k_istore (i := 5) dX12_mayStand_126 (rfl : 126 + 2 = 128) (Nat.le_of_ble_eq_true rfl) ?_
          refine k_ls (ls2 := [.ref 116, .int a1, .int a2, .int a3, .int 1, .int (f_X12_refuses (yS x 0 a3) a3 1 a1)]) rfl ?_
          refine k_iconst (v := 0) dX12_mayStand_128 (rfl : 128 + 1 = 129) (by decide) ?_
          refine k_iret rfl rfl dX12_mayStand_129 (Nat.le_of_ble_eq_true rfl) (Nat.le_of_ble_eq_true rfl) ?_
          exact kRt_of (congrArg (fun z => some (Value.int z)) (Eq.symm (Eq.trans (if_neg (show ¬ ((f_X12_isTree (x.2 0) a1) = 0) from b6)) (Eq.trans (if_neg (show ¬ (a3 = 0) from b48)) (Eq.trans (if_neg (show ¬ ((sdL (x.2 0) a1 (Int32.toNatClampNeg ((x.2 0) 6)) 0) < 0) from b58)) (if_neg (show ¬ ((sdL (x.2 0) a1 (Int32.toNatClampNeg ((x.2 0) 6)) 0) = a2) from b67))))))) (congrArg (fun z => kTp a9 (kHr z z9)) (Eq.symm (Eq.trans (if_neg (show ¬ ((f_X12_isTree (x.2 0) a1) = 0) from b6)) (Eq.trans (if_neg (show ¬ (a3 = 0) from b48)) (Eq.trans (if_neg (show ¬ ((sdL (x.2 0) a1 (Int32.toNatClampNeg ((x.2 0) 6)) 0) < 0) from b58)) (if_neg (show ¬ ((sdL (x.2 0) a1 (Int32.toNatClampNeg ((x.2 0) 6)) 0) = a2) from b67)))))))
    · refine k_iconst (v := 1) dX12_mayStand_51 (rfl : 51 + 1 = 52) (by decide) ?_
      refine k_iret rfl rfl dX12_mayStand_52 (Nat.le_of_ble_eq_true rfl) (Nat.le_of_ble_eq_true rfl) ?_
      exact kRt_of (congrArg (fun z => some (Value.int z)) (Eq.symm (Eq.trans (if_neg (show ¬ ((f_X12_isTree (x.2 0) a1) = 0) from b6)) (if_pos (show a3 = 0 from b48))))) (congrArg (fun z => kTp a9 (kHr z z9)) (Eq.symm (Eq.trans (if_neg (show ¬ ((f_X12_isTree (x.2 0) a1) = 0) from b6)) (if_pos (show a3 = 0 from b48)))))
  · refine k_aload_n (i := 0) dX12_mayStand_9 (rfl : 9 + 1 = 10) rfl rfl ?_
    refine k_iload_n (i := 1) dX12_mayStand_10 (rfl : 10 + 1 = 11) rfl rfl ?_
    refine k_callVd1 cv_X12_85 ⟨Nat.le_of_ble_eq_true rfl, Nat.le_of_ble_eq_true rfl⟩ (m_X12_standing hv) dX12_mayStand_11 (rfl : 11 + 3 = 14) (Nat.le_of_ble_eq_true rfl) rfl rfl rfl ⟨Nat.le_of_ble_eq_true rfl, Nat.le_of_ble_eq_true rfl⟩ ?_
    refine k_if_lt (tgt := 26) dX12_mayStand_14 (rfl : 14 + 3 = 17) (by decide) (fun b14 => ?_) (fun b14 => ?_)
    · refine k_aload_n (i := 0) dX12_mayStand_26 (rfl : 26 + 1 = 27) rfl rfl ?_
      refine k_get 12 7 fg_X12_16 dX12_mayStand_27 (rfl : 27 + 3 = 30) (Nat.le_of_ble_eq_true rfl) rfl rfl ?_
      refine k_iconst (v := 3) dX12_mayStand_30 (rfl : 30 + 1 = 31) (by decide) ?_
      refine k_ialdc (c := 3) (by decide) dX12_mayStand_31 (rfl : 31 + 1 = 32) (Nat.le_of_ble_eq_true rfl) rfl (vp_in_iff.mpr (by decide)) ?_
      refine k_iload_n (i := 1) dX12_mayStand_32 (rfl : 32 + 1 = 33) rfl rfl ?_
      refine k_icmp_ne (tgt := 40) dX12_mayStand_33 (rfl : 33 + 3 = 36) (by decide) (fun b33 => ?_) (fun b33 => ?_)
      · refine k_iconst (v := 0) dX12_mayStand_40 (rfl : 40 + 1 = 41) (by decide) ?_
        refine k_put 12 0 fp_X12_50 dX12_mayStand_41 (rfl : 41 + 3 = 44) (Nat.le_of_ble_eq_true rfl) rfl (Nat.le_of_ble_eq_true rfl) rfl rfl ?_
        refine kf_Y0 (v := 0) rfl ?_
        refine k_aload_n (i := 0) dX12_mayStand_44 (rfl : 44 + 1 = 45) rfl rfl ?_
        refine k_get 12 0 fg_X12_50 dX12_mayStand_45 (rfl : 45 + 3 = 48) (Nat.le_of_ble_eq_true rfl) rfl rfl ?_
        refine k_if_ne (tgt := 53) dX12_mayStand_48 (rfl : 48 + 3 = 51) (by decide) (fun b48 => by exact absurd (by first | decide | (show (0 : Int32) = 0; decide)) b48) (fun b48 => ?_)
        refine k_iconst (v := 1) dX12_mayStand_51 (rfl : 51 + 1 = 52) (by decide) ?_
        refine k_iret rfl rfl dX12_mayStand_52 (Nat.le_of_ble_eq_true rfl) (Nat.le_of_ble_eq_true rfl) ?_
        exact kRt_of (congrArg (fun z => some (Value.int z)) (Eq.symm (Eq.trans (if_pos (show (f_X12_isTree (x.2 0) a1) = 0 from b6)) (Eq.trans (if_pos (show (sdL (x.2 0) a1 (Int32.toNatClampNeg ((x.2 0) 6)) 0) < 0 from b14)) (if_neg (show ¬ (((x.2 0) 3) = a1) from b33)))))) (congrArg (fun z => kTp a9 (kHr z z9)) (Eq.symm (Eq.trans (if_pos (show (f_X12_isTree (x.2 0) a1) = 0 from b6)) (Eq.trans (if_pos (show (sdL (x.2 0) a1 (Int32.toNatClampNeg ((x.2 0) 6)) 0) < 0 from b14)) (if_neg (show ¬ (((x.2 0) 3) = a1) from b33))))))
      · refine k_iload_n (i := 3) dX12_mayStand_36 (rfl : 36 + 1 = 37) rfl rfl ?_
        refine k_goto (tgt := 41) dX12_mayStand_37 (by decide) ?_
        refine k_put 12 0 fp_X12_50 dX12_mayStand_41 (rfl : 41 + 3 = 44) (Nat.le_of_ble_eq_true rfl) rfl (Nat.le_of_ble_eq_true rfl) rfl rfl ?_
        refine kf_Y0 (v := a3) rfl ?_
        refine k_aload_n (i := 0) dX12_mayStand_44 (rfl : 44 + 1 = 45) rfl rfl ?_
        refine k_get 12 0 fg_X12_50 dX12_mayStand_45 (rfl : 45 + 3 = 48) (Nat.le_of_ble_eq_true rfl) rfl rfl ?_
        refine k_if_ne (tgt := 53) dX12_mayStand_48 (rfl : 48 + 3 = 51) (by decide) (fun b48 => ?_) (fun b48 => ?_)
        · refine k_aload_n (i := 0) dX12_mayStand_53 (rfl : 53 + 1 = 54) rfl rfl ?_
          refine k_iload_n (i := 1) dX12_mayStand_54 (rfl : 54 + 1 = 55) rfl rfl ?_
          refine k_callVd1 cv_X12_85 ⟨Nat.le_of_ble_eq_true rfl, Nat.le_of_ble_eq_true rfl⟩ (m_X12_standing hv) dX12_mayStand_55 (rfl : 55 + 3 = 58) (Nat.le_of_ble_eq_true rfl) rfl rfl rfl ⟨Nat.le_of_ble_eq_true rfl, Nat.le_of_ble_eq_true rfl⟩ ?_
          refine k_if_lt (tgt := 74) dX12_mayStand_58 (rfl : 58 + 3 = 61) (by decide) (fun b58 => ?_) (fun b58 => by exact absurd b14 b58)
          refine k_iconst (v := 0) dX12_mayStand_74 (rfl : 74 + 1 = 75) (by decide) ?_
          refine k_istore (i := 4) dX12_mayStand_75 (rfl : 75 + 2 = 77) (Nat.le_of_ble_eq_true rfl) ?_
          refine k_ls (ls2 := [.ref 116, .int a1, .int a2, .int a3, .int 0, .retAddr 0]) rfl ?_
          refine k_aload_n (i := 0) dX12_mayStand_77 (rfl : 77 + 1 = 78) rfl rfl ?_
          refine k_iload_n (i := 3) dX12_mayStand_78 (rfl : 78 + 1 = 79) rfl rfl ?_
          refine k_aload_n (i := 0) dX12_mayStand_79 (rfl : 79 + 1 = 80) rfl rfl ?_
          refine k_iload_n (i := 1) dX12_mayStand_80 (rfl : 80 + 1 = 81) rfl rfl ?_
          refine k_callVd1 cv_X12_106 ⟨Nat.le_of_ble_eq_true rfl, Nat.le_of_ble_eq_true rfl⟩ (m_X12_isTree hc) dX12_mayStand_81 (rfl : 81 + 3 = 84) (Nat.le_of_ble_eq_true rfl) rfl rfl rfl ⟨Nat.le_of_ble_eq_true rfl, Nat.le_of_ble_eq_true rfl⟩ ?_
          refine k_if_eq (tgt := 91) dX12_mayStand_84 (rfl : 84 + 3 = 87) (by decide) (fun b84 => ?_) (fun b84 => by exact absurd b6 b84)
          refine k_iload (i := 4) dX12_mayStand_91 (rfl : 91 + 2 = 93) rfl ?_
          refine k_if_eq (tgt := 100) dX12_mayStand_93 (rfl : 93 + 3 = 96) (by decide) (fun b93 => ?_) (fun b93 => by exact absurd (by decide) b93)
          refine k_iconst (v := 3) dX12_mayStand_100 (rfl : 100 + 1 = 101) (by decide) ?_
          refine k_aload_n (i := 0) dX12_mayStand_101 (rfl : 101 + 1 = 102) rfl rfl ?_
          refine k_iload_n (i := 1) dX12_mayStand_102 (rfl : 102 + 1 = 103) rfl rfl ?_
          refine k_callVd1 cv_X12_106 ⟨Nat.le_of_ble_eq_true rfl, Nat.le_of_ble_eq_true rfl⟩ (m_X12_isTree hc) dX12_mayStand_103 (rfl : 103 + 3 = 106) (Nat.le_of_ble_eq_true rfl) rfl rfl rfl ⟨Nat.le_of_ble_eq_true rfl, Nat.le_of_ble_eq_true rfl⟩ ?_
          refine k_if_ne (tgt := 122) dX12_mayStand_106 (rfl : 106 + 3 = 109) (by decide) (fun b106 => by exact absurd b6 b106) (fun b106 => ?_)
          refine k_iload (i := 4) dX12_mayStand_109 (rfl : 109 + 2 = 111) rfl ?_
          refine k_if_eq (tgt := 122) dX12_mayStand_111 (rfl : 111 + 3 = 114) (by decide) (fun b111 => ?_) (fun b111 => by exact absurd (by decide) b111)
          refine k_iload_n (i := 1) dX12_mayStand_122 (rfl : 122 + 1 = 123) rfl rfl ?_
          refine k_callVd3 cv_X12_88 ⟨Nat.le_of_ble_eq_true rfl, Nat.le_of_ble_eq_true rfl⟩ (m_X12_refuses) dX12_mayStand_123 (rfl : 123 + 3 = 126) (Nat.le_of_ble_eq_true rfl) rfl rfl rfl ⟨Nat.le_of_ble_eq_true rfl, Nat.le_of_ble_eq_true rfl⟩ ?_
          refine k_istore (i := 5) dX12_mayStand_126 (rfl : 126 + 2 = 128) (Nat.le_of_ble_eq_true rfl) ?_
          refine k_ls (ls2 := [.ref 116, .int a1, .int a2, .int a3, .int 0, .int (f_X12_refuses (yS x 0 a3) a3 3 a1)]) rfl ?_
          refine k_iconst (v := 0) dX12_mayStand_128 (rfl : 128 + 1 = 129) (by decide) ?_
          refine k_iret rfl rfl dX12_mayStand_129 (Nat.le_of_ble_eq_true rfl) (Nat.le_of_ble_eq_true rfl) ?_
          exact kRt_of (congrArg (fun z => some (Value.int z)) (Eq.symm (Eq.trans (if_pos (show (f_X12_isTree (x.2 0) a1) = 0 from b6)) (Eq.trans (if_pos (show (sdL (x.2 0) a1 (Int32.toNatClampNeg ((x.2 0) 6)) 0) < 0 from b14)) (Eq.trans (if_pos (show ((x.2 0) 3) = a1 from b33)) (if_neg (show ¬ (a3 = 0) from b48))))))) (congrArg (fun z => kTp a9 (kHr z z9)) (Eq.symm (Eq.trans (if_pos (show (f_X12_isTree (x.2 0) a1) = 0 from b6)) (Eq.trans (if_pos (show (sdL (x.2 0) a1 (Int32.toNatClampNeg ((x.2 0) 6)) 0) < 0 from b14)) (Eq.trans (if_pos (show ((x.2 0) 3) = a1 from b33)) (if_neg (show ¬ (a3 = 0) from b48)))))))
        · refine k_iconst (v := 1) dX12_mayStand_51 (rfl : 51 + 1 = 52) (by decide) ?_
          refine k_iret rfl rfl dX12_mayStand_52 (Nat.le_of_ble_eq_true rfl) (Nat.le_of_ble_eq_true rfl) ?_
          exact kRt_of (congrArg (fun z => some (Value.int z)) (Eq.symm (Eq.trans (if_pos (show (f_X12_isTree (x.2 0) a1) = 0 from b6)) (Eq.trans (if_pos (show (sdL (x.2 0) a1 (Int32.toNatClampNeg ((x.2 0) 6)) 0) < 0 from b14)) (Eq.trans (if_pos (show ((x.2 0) 3) = a1 from b33)) (if_pos (show a3 = 0 from b48))))))) (congrArg (fun z => kTp a9 (kHr z z9)) (Eq.symm (Eq.trans (if_pos (show (f_X12_isTree (x.2 0) a1) = 0 from b6)) (Eq.trans (if_pos (show (sdL (x.2 0) a1 (Int32.toNatClampNeg ((x.2 0) 6)) 0) < 0 from b14)) (Eq.trans (if_pos (show ((x.2 0) 3) = a1 from b33)) (if_pos (show a3 = 0 from b48)))))))
    · refine k_aload_n (i := 0) dX12_mayStand_17 (rfl : 17 + 1 = 18) rfl rfl ?_
      refine k_iload_n (i := 1) dX12_mayStand_18 (rfl : 18 + 1 = 19) rfl rfl ?_
      refine k_callVd1 cv_X12_85 ⟨Nat.le_of_ble_eq_true rfl, Nat.le_of_ble_eq_true rfl⟩ (m_X12_standing hv) dX12_mayStand_19 (rfl : 19 + 3 = 22) (Nat.le_of_ble_eq_true rfl) rfl rfl rfl ⟨Nat.le_of_ble_eq_true rfl, Nat.le_of_ble_eq_true rfl⟩ ?_
      refine k_iload_n (i := 2) dX12_mayStand_22 (rfl : 22 + 1 = 23) rfl rfl ?_
      refine k_icmp_ne (tgt := 36) dX12_mayStand_23 (rfl : 23 + 3 = 26) (by decide) (fun b23 => ?_) (fun b23 => ?_)
      · refine k_iload_n (i := 3) dX12_mayStand_36 (rfl : 36 + 1 = 37) rfl rfl ?_
        refine k_goto (tgt := 41) dX12_mayStand_37 (by decide) ?_
        refine k_put 12 0 fp_X12_50 dX12_mayStand_41 (rfl : 41 + 3 = 44) (Nat.le_of_ble_eq_true rfl) rfl (Nat.le_of_ble_eq_true rfl) rfl rfl ?_
        refine kf_Y0 (v := a3) rfl ?_
        refine k_aload_n (i := 0) dX12_mayStand_44 (rfl : 44 + 1 = 45) rfl rfl ?_
        refine k_get 12 0 fg_X12_50 dX12_mayStand_45 (rfl : 45 + 3 = 48) (Nat.le_of_ble_eq_true rfl) rfl rfl ?_
        refine k_if_ne (tgt := 53) dX12_mayStand_48 (rfl : 48 + 3 = 51) (by decide) (fun b48 => ?_) (fun b48 => ?_)
        · refine k_aload_n (i := 0) dX12_mayStand_53 (rfl : 53 + 1 = 54) rfl rfl ?_
          refine k_iload_n (i := 1) dX12_mayStand_54 (rfl : 54 + 1 = 55) rfl rfl ?_
          refine k_callVd1 cv_X12_85 ⟨Nat.le_of_ble_eq_true rfl, Nat.le_of_ble_eq_true rfl⟩ (m_X12_standing hv) dX12_mayStand_55 (rfl : 55 + 3 = 58) (Nat.le_of_ble_eq_true rfl) rfl rfl rfl ⟨Nat.le_of_ble_eq_true rfl, Nat.le_of_ble_eq_true rfl⟩ ?_
          refine k_if_lt (tgt := 74) dX12_mayStand_58 (rfl : 58 + 3 = 61) (by decide) (fun b58 => by exact absurd b58 b14) (fun b58 => ?_)
          refine k_aload_n (i := 0) dX12_mayStand_61 (rfl : 61 + 1 = 62) rfl rfl ?_
          refine k_iload_n (i := 1) dX12_mayStand_62 (rfl : 62 + 1 = 63) rfl rfl ?_
          refine k_callVd1 cv_X12_85 ⟨Nat.le_of_ble_eq_true rfl, Nat.le_of_ble_eq_true rfl⟩ (m_X12_standing hv) dX12_mayStand_63 (rfl : 63 + 3 = 66) (Nat.le_of_ble_eq_true rfl) rfl rfl rfl ⟨Nat.le_of_ble_eq_true rfl, Nat.le_of_ble_eq_true rfl⟩ ?_
          refine k_iload_n (i := 2) dX12_mayStand_66 (rfl : 66 + 1 = 67) rfl rfl ?_
          refine k_icmp_eq (tgt := 74) dX12_mayStand_67 (rfl : 67 + 3 = 70) (by decide) (fun b67 => by exact absurd b67 b23) (fun b67 => ?_)
          refine k_iconst (v := 1) dX12_mayStand_70 (rfl : 70 + 1 = 71) (by decide) ?_
          refine k_goto (tgt := 75) dX12_mayStand_71 (by decide) ?_
          refine k_istore (i := 4) dX12_mayStand_75 (rfl : 75 + 2 = 77) (Nat.le_of_ble_eq_true rfl) ?_
          refine k_ls (ls2 := [.ref 116, .int a1, .int a2, .int a3, .int 1, .retAddr 0]) rfl ?_
          refine k_aload_n (i := 0) dX12_mayStand_77 (rfl : 77 + 1 = 78) rfl rfl ?_
          refine k_iload_n (i := 3) dX12_mayStand_78 (rfl : 78 + 1 = 79) rfl rfl ?_
          refine k_aload_n (i := 0) dX12_mayStand_79 (rfl : 79 + 1 = 80) rfl rfl ?_
          refine k_iload_n (i := 1) dX12_mayStand_80 (rfl : 80 + 1 = 81) rfl rfl ?_
          refine k_callVd1 cv_X12_106 ⟨Nat.le_of_ble_eq_true rfl, Nat.le_of_ble_eq_true rfl⟩ (m_X12_isTree hc) dX12_mayStand_81 (rfl : 81 + 3 = 84) (Nat.le_of_ble_eq_true rfl) rfl rfl rfl ⟨Nat.le_of_ble_eq_true rfl, Nat.le_of_ble_eq_true rfl⟩ ?_
          refine k_if_eq (tgt := 91) dX12_mayStand_84 (rfl : 84 + 3 = 87) (by decide) (fun b84 => ?_) (fun b84 => by exact absurd b6 b84)
          refine k_iload (i := 4) dX12_mayStand_91 (rfl : 91 + 2 = 93) rfl ?_
          refine k_if_eq (tgt := 100) dX12_mayStand_93 (rfl : 93 + 3 = 96) (by decide) (fun b93 => by exact absurd b93 (by decide)) (fun b93 => ?_)
          refine k_iconst (v := 2) dX12_mayStand_96 (rfl : 96 + 1 = 97) (by decide) ?_
          refine k_goto (tgt := 101) dX12_mayStand_97 (by decide) ?_
          refine k_aload_n (i := 0) dX12_mayStand_101 (rfl : 101 + 1 = 102) rfl rfl ?_
          refine k_iload_n (i := 1) dX12_mayStand_102 (rfl : 102 + 1 = 103) rfl rfl ?_
          refine k_callVd1 cv_X12_106 ⟨Nat.le_of_ble_eq_true rfl, Nat.le_of_ble_eq_true rfl⟩ (m_X12_isTree hc) dX12_mayStand_103 (rfl : 103 + 3 = 106) (Nat.le_of_ble_eq_true rfl) rfl rfl rfl ⟨Nat.le_of_ble_eq_true rfl, Nat.le_of_ble_eq_true rfl⟩ ?_
          refine k_if_ne (tgt := 122) dX12_mayStand_106 (rfl : 106 + 3 = 109) (by decide) (fun b106 => by exact absurd b6 b106) (fun b106 => ?_)
          refine k_iload (i := 4) dX12_mayStand_109 (rfl : 109 + 2 = 111) rfl ?_
          refine k_if_eq (tgt := 122) dX12_mayStand_111 (rfl : 111 + 3 = 114) (by decide) (fun b111 => by exact absurd b111 (by decide)) (fun b111 => ?_)
          refine k_aload_n (i := 0) dX12_mayStand_114 (rfl : 114 + 1 = 115) rfl rfl ?_
          refine k_iload_n (i := 1) dX12_mayStand_115 (rfl : 115 + 1 = 116) rfl rfl ?_
          refine k_callVd1 cv_X12_85 ⟨Nat.le_of_ble_eq_true rfl, Nat.le_of_ble_eq_true rfl⟩ (m_X12_standing hv) dX12_mayStand_116 (rfl : 116 + 3 = 119) (Nat.le_of_ble_eq_true rfl) rfl rfl rfl ⟨Nat.le_of_ble_eq_true rfl, Nat.le_of_ble_eq_true rfl⟩ ?_
          refine k_goto (tgt := 123) dX12_mayStand_119 (by decide) ?_
          refine k_callVd3 cv_X12_88 ⟨Nat.le_of_ble_eq_true rfl, Nat.le_of_ble_eq_true rfl⟩ (m_X12_refuses) dX12_mayStand_123 (rfl : 123 + 3 = 126) (Nat.le_of_ble_eq_true rfl) rfl rfl rfl ⟨Nat.le_of_ble_eq_true rfl, Nat.le_of_ble_eq_true rfl⟩ ?_
          refine k_istore (i := 5) dX12_mayStand_126 (rfl : 126 + 2 = 128) (Nat.le_of_ble_eq_true rfl) ?_
          refine k_ls (ls2 := [.ref 116, .int a1, .int a2, .int a3, .int 1, .int (f_X12_refuses (yS x 0 a3) a3 2 (sdL (x.2 0) a1 (Int32.toNatClampNeg ((x.2 0) 6)) 0))]) rfl ?_
          refine k_iconst (v := 0) dX12_mayStand_128 (rfl : 128 + 1 = 129) (by decide) ?_
          refine k_iret rfl rfl dX12_mayStand_129 (Nat.le_of_ble_eq_true rfl) (Nat.le_of_ble_eq_true rfl) ?_
          exact kRt_of (congrArg (fun z => some (Value.int z)) (Eq.symm (Eq.trans (if_pos (show (f_X12_isTree (x.2 0) a1) = 0 from b6)) (Eq.trans (if_neg (show ¬ ((sdL (x.2 0) a1 (Int32.toNatClampNeg ((x.2 0) 6)) 0) < 0) from b14)) (Eq.trans (if_neg (show ¬ ((sdL (x.2 0) a1 (Int32.toNatClampNeg ((x.2 0) 6)) 0) = a2) from b23)) (if_neg (show ¬ (a3 = 0) from b48))))))) (congrArg (fun z => kTp a9 (kHr z z9)) (Eq.symm (Eq.trans (if_pos (show (f_X12_isTree (x.2 0) a1) = 0 from b6)) (Eq.trans (if_neg (show ¬ ((sdL (x.2 0) a1 (Int32.toNatClampNeg ((x.2 0) 6)) 0) < 0) from b14)) (Eq.trans (if_neg (show ¬ ((sdL (x.2 0) a1 (Int32.toNatClampNeg ((x.2 0) 6)) 0) = a2) from b23)) (if_neg (show ¬ (a3 = 0) from b48)))))))
        · refine k_iconst (v := 1) dX12_mayStand_51 (rfl : 51 + 1 = 52) (by decide) ?_
          refine k_iret rfl rfl dX12_mayStand_52 (Nat.le_of_ble_eq_true rfl) (Nat.le_of_ble_eq_true rfl) ?_
          exact kRt_of (congrArg (fun z => some (Value.int z)) (Eq.symm (Eq.trans (if_pos (show (f_X12_isTree (x.2 0) a1) = 0 from b6)) (Eq.trans (if_neg (show ¬ ((sdL (x.2 0) a1 (Int32.toNatClampNeg ((x.2 0) 6)) 0) < 0) from b14)) (Eq.trans (if_neg (show ¬ ((sdL (x.2 0) a1 (Int32.toNatClampNeg ((x.2 0) 6)) 0) = a2) from b23)) (if_pos (show a3 = 0 from b48))))))) (congrArg (fun z => kTp a9 (kHr z z9)) (Eq.symm (Eq.trans (if_pos (show (f_X12_isTree (x.2 0) a1) = 0 from b6)) (Eq.trans (if_neg (show ¬ ((sdL (x.2 0) a1 (Int32.toNatClampNeg ((x.2 0) 6)) 0) < 0) from b14)) (Eq.trans (if_neg (show ¬ ((sdL (x.2 0) a1 (Int32.toNatClampNeg ((x.2 0) 6)) 0) = a2) from b23)) (if_pos (show a3 = 0 from b48)))))))
      · refine k_aload_n (i := 0) dX12_mayStand_26 (rfl : 26 + 1 = 27) rfl rfl ?_
        refine k_get 12 7 fg_X12_16 dX12_mayStand_27 (rfl : 27 + 3 = 30) (Nat.le_of_ble_eq_true rfl) rfl rfl ?_
        refine k_iconst (v := 3) dX12_mayStand_30 (rfl : 30 + 1 = 31) (by decide) ?_
        refine k_ialdc (c := 3) (by decide) dX12_mayStand_31 (rfl : 31 + 1 = 32) (Nat.le_of_ble_eq_true rfl) rfl (vp_in_iff.mpr (by decide)) ?_
        refine k_iload_n (i := 1) dX12_mayStand_32 (rfl : 32 + 1 = 33) rfl rfl ?_
        refine k_icmp_ne (tgt := 40) dX12_mayStand_33 (rfl : 33 + 3 = 36) (by decide) (fun b33 => ?_) (fun b33 => ?_)
        · refine k_iconst (v := 0) dX12_mayStand_40 (rfl : 40 + 1 = 41) (by decide) ?_
          refine k_put 12 0 fp_X12_50 dX12_mayStand_41 (rfl : 41 + 3 = 44) (Nat.le_of_ble_eq_true rfl) rfl (Nat.le_of_ble_eq_true rfl) rfl rfl ?_
          refine kf_Y0 (v := 0) rfl ?_
          refine k_aload_n (i := 0) dX12_mayStand_44 (rfl : 44 + 1 = 45) rfl rfl ?_
          refine k_get 12 0 fg_X12_50 dX12_mayStand_45 (rfl : 45 + 3 = 48) (Nat.le_of_ble_eq_true rfl) rfl rfl ?_
          refine k_if_ne (tgt := 53) dX12_mayStand_48 (rfl : 48 + 3 = 51) (by decide) (fun b48 => by exact absurd (by first | decide | (show (0 : Int32) = 0; decide)) b48) (fun b48 => ?_)
          refine k_iconst (v := 1) dX12_mayStand_51 (rfl : 51 + 1 = 52) (by decide) ?_
          refine k_iret rfl rfl dX12_mayStand_52 (Nat.le_of_ble_eq_true rfl) (Nat.le_of_ble_eq_true rfl) ?_
          exact kRt_of (congrArg (fun z => some (Value.int z)) (Eq.symm (Eq.trans (if_pos (show (f_X12_isTree (x.2 0) a1) = 0 from b6)) (Eq.trans (if_neg (show ¬ ((sdL (x.2 0) a1 (Int32.toNatClampNeg ((x.2 0) 6)) 0) < 0) from b14)) (Eq.trans (if_pos (show (sdL (x.2 0) a1 (Int32.toNatClampNeg ((x.2 0) 6)) 0) = a2 from b23)) (if_neg (show ¬ (((x.2 0) 3) = a1) from b33))))))) (congrArg (fun z => kTp a9 (kHr z z9)) (Eq.symm (Eq.trans (if_pos (show (f_X12_isTree (x.2 0) a1) = 0 from b6)) (Eq.trans (if_neg (show ¬ ((sdL (x.2 0) a1 (Int32.toNatClampNeg ((x.2 0) 6)) 0) < 0) from b14)) (Eq.trans (if_pos (show (sdL (x.2 0) a1 (Int32.toNatClampNeg ((x.2 0) 6)) 0) = a2 from b23)) (if_neg (show ¬ (((x.2 0) 3) = a1) from b33)))))))
        · refine k_iload_n (i := 3) dX12_mayStand_36 (rfl : 36 + 1 = 37) rfl rfl ?_
          refine k_goto (tgt := 41) dX12_mayStand_37 (by decide) ?_
          refine k_put 12 0 fp_X12_50 dX12_mayStand_41 (rfl : 41 + 3 = 44) (Nat.le_of_ble_eq_true rfl) rfl (Nat.le_of_ble_eq_true rfl) rfl rfl ?_
          refine kf_Y0 (v := a3) rfl ?_
          refine k_aload_n (i := 0) dX12_mayStand_44 (rfl : 44 + 1 = 45) rfl rfl ?_
          refine k_get 12 0 fg_X12_50 dX12_mayStand_45 (rfl : 45 + 3 = 48) (Nat.le_of_ble_eq_true rfl) rfl rfl ?_
          refine k_if_ne (tgt := 53) dX12_mayStand_48 (rfl : 48 + 3 = 51) (by decide) (fun b48 => ?_) (fun b48 => ?_)
          · refine k_aload_n (i := 0) dX12_mayStand_53 (rfl : 53 + 1 = 54) rfl rfl ?_
            refine k_iload_n (i := 1) dX12_mayStand_54 (rfl : 54 + 1 = 55) rfl rfl ?_
            refine k_callVd1 cv_X12_85 ⟨Nat.le_of_ble_eq_true rfl, Nat.le_of_ble_eq_true rfl⟩ (m_X12_standing hv) dX12_mayStand_55 (rfl : 55 + 3 = 58) (Nat.le_of_ble_eq_true rfl) rfl rfl rfl ⟨Nat.le_of_ble_eq_true rfl, Nat.le_of_ble_eq_true rfl⟩ ?_
            refine k_if_lt (tgt := 74) dX12_mayStand_58 (rfl : 58 + 3 = 61) (by decide) (fun b58 => by exact absurd b58 b14) (fun b58 => ?_)
            refine k_aload_n (i := 0) dX12_mayStand_61 (rfl : 61 + 1 = 62) rfl rfl ?_
            refine k_iload_n (i := 1) dX12_mayStand_62 (rfl : 62 + 1 = 63) rfl rfl ?_
            refine k_callVd1 cv_X12_85 ⟨Nat.le_of_ble_eq_true rfl, Nat.le_of_ble_eq_true rfl⟩ (m_X12_standing hv) dX12_mayStand_63 (rfl : 63 + 3 = 66) (Nat.le_of_ble_eq_true rfl) rfl rfl rfl ⟨Nat.le_of_ble_eq_true rfl, Nat.le_of_ble_eq_true rfl⟩ ?_
            refine k_iload_n (i := 2) dX12_mayStand_66 (rfl : 66 + 1 = 67) rfl rfl ?_
            refine k_icmp_eq (tgt := 74) dX12_mayStand_67 (rfl : 67 + 3 = 70) (by decide) (fun b67 => ?_) (fun b67 => by exact absurd b23 b67)
            refine k_iconst (v := 0) dX12_mayStand_74 (rfl : 74 + 1 = 75) (by decide) ?_
            refine k_istore (i := 4) dX12_mayStand_75 (rfl : 75 + 2 = 77) (Nat.le_of_ble_eq_true rfl) ?_
            refine k_ls (ls2 := [.ref 116, .int a1, .int a2, .int a3, .int 0, .retAddr 0]) rfl ?_
            refine k_aload_n (i := 0) dX12_mayStand_77 (rfl : 77 + 1 = 78) rfl rfl ?_
            refine k_iload_n (i := 3) dX12_mayStand_78 (rfl : 78 + 1 = 79) rfl rfl ?_
            refine k_aload_n (i := 0) dX12_mayStand_79 (rfl : 79 + 1 = 80) rfl rfl ?_
            refine k_iload_n (i := 1) dX12_mayStand_80 (rfl : 80 + 1 = 81) rfl rfl ?_
            refine k_callVd1 cv_X12_106 ⟨Nat.le_of_ble_eq_true rfl, Nat.le_of_ble_eq_true rfl⟩ (m_X12_isTree hc) dX12_mayStand_81 (rfl : 81 + 3 = 84) (Nat.le_of_ble_eq_true rfl) rfl rfl rfl ⟨Nat.le_of_ble_eq_true rfl, Nat.le_of_ble_eq_true rfl⟩ ?_
            refine k_if_eq (tgt := 91) dX12_mayStand_84 (rfl : 84 + 3 = 87) (by decide) (fun b84 => ?_) (fun b84 => by exact absurd b6 b84)
            refine k_iload (i := 4) dX12_mayStand_91 (rfl : 91 + 2 = 93) rfl ?_
            refine k_if_eq (tgt := 100) dX12_mayStand_93 (rfl : 93 + 3 = 96) (by decide) (fun b93 => ?_) (fun b93 => by exact absurd (by decide) b93)
            refine k_iconst (v := 3) dX12_mayStand_100 (rfl : 100 + 1 = 101) (by decide) ?_
            refine k_aload_n (i := 0) dX12_mayStand_101 (rfl : 101 + 1 = 102) rfl rfl ?_
            refine k_iload_n (i := 1) dX12_mayStand_102 (rfl : 102 + 1 = 103) rfl rfl ?_
            refine k_callVd1 cv_X12_106 ⟨Nat.le_of_ble_eq_true rfl, Nat.le_of_ble_eq_true rfl⟩ (m_X12_isTree hc) dX12_mayStand_103 (rfl : 103 + 3 = 106) (Nat.le_of_ble_eq_true rfl) rfl rfl rfl ⟨Nat.le_of_ble_eq_true rfl, Nat.le_of_ble_eq_true rfl⟩ ?_
            refine k_if_ne (tgt := 122) dX12_mayStand_106 (rfl : 106 + 3 = 109) (by decide) (fun b106 => by exact absurd b6 b106) (fun b106 => ?_)
            refine k_iload (i := 4) dX12_mayStand_109 (rfl : 109 + 2 = 111) rfl ?_
            refine k_if_eq (tgt := 122) dX12_mayStand_111 (rfl : 111 + 3 = 114) (by decide) (fun b111 => ?_) (fun b111 => by exact absurd (by decide) b111)
            refine k_iload_n (i := 1) dX12_mayStand_122 (rfl : 122 + 1 = 123) rfl rfl ?_
            refine k_callVd3 cv_X12_88 ⟨Nat.le_of_ble_eq_true rfl, Nat.le_of_ble_eq_true rfl⟩ (m_X12_refuses) dX12_mayStand_123 (rfl : 123 + 3 = 126) (Nat.le_of_ble_eq_true rfl) rfl rfl rfl ⟨Nat.le_of_ble_eq_true rfl, Nat.le_of_ble_eq_true rfl⟩ ?_
            refine k_istore (i := 5) dX12_mayStand_126 (rfl : 126 + 2 = 128) (Nat.le_of_ble_eq_true rfl) ?_
            refine k_ls (ls2 := [.ref 116, .int a1, .int a2, .int a3, .int 0, .int (f_X12_refuses (yS x 0 a3) a3 3 a1)]) rfl ?_
            refine k_iconst (v := 0) dX12_mayStand_128 (rfl : 128 + 1 = 129) (by decide) ?_
            refine k_iret rfl rfl dX12_mayStand_129 (Nat.le_of_ble_eq_true rfl) (Nat.le_of_ble_eq_true rfl) ?_
            exact kRt_of (congrArg (fun z => some (Value.int z)) (Eq.symm (Eq.trans (if_pos (show (f_X12_isTree (x.2 0) a1) = 0 from b6)) (Eq.trans (if_neg (show ¬ ((sdL (x.2 0) a1 (Int32.toNatClampNeg ((x.2 0) 6)) 0) < 0) from b14)) (Eq.trans (if_pos (show (sdL (x.2 0) a1 (Int32.toNatClampNeg ((x.2 0) 6)) 0) = a2 from b23)) (Eq.trans (if_pos (show ((x.2 0) 3) = a1 from b33)) (if_neg (show ¬ (a3 = 0) from b48)))))))) (congrArg (fun z => kTp a9 (kHr z z9)) (Eq.symm (Eq.trans (if_pos (show (f_X12_isTree (x.2 0) a1) = 0 from b6)) (Eq.trans (if_neg (show ¬ ((sdL (x.2 0) a1 (Int32.toNatClampNeg ((x.2 0) 6)) 0) < 0) from b14)) (Eq.trans (if_pos (show (sdL (x.2 0) a1 (Int32.toNatClampNeg ((x.2 0) 6)) 0) = a2 from b23)) (Eq.trans (if_pos (show ((x.2 0) 3) = a1 from b33)) (if_neg (show ¬ (a3 = 0) from b48))))))))
          · refine k_iconst (v := 1) dX12_mayStand_51 (rfl : 51 + 1 = 52) (by decide) ?_
            refine k_iret rfl rfl dX12_mayStand_52 (Nat.le_of_ble_eq_true rfl) (Nat.le_of_ble_eq_true rfl) ?_
            exact kRt_of (congrArg (fun z => some (Value.int z)) (Eq.symm (Eq.trans (if_pos (show (f_X12_isTree (x.2 0) a1) = 0 from b6)) (Eq.trans (if_neg (show ¬ ((sdL (x.2 0) a1 (Int32.toNatClampNeg ((x.2 0) 6)) 0) < 0) from b14)) (Eq.trans (if_pos (show (sdL (x.2 0) a1 (Int32.toNatClampNeg ((x.2 0) 6)) 0) = a2 from b23)) (Eq.trans (if_pos (show ((x.2 0) 3) = a1 from b33)) (if_pos (show a3 = 0 from b48)))))))) (congrArg (fun z => kTp a9 (kHr z z9)) (Eq.symm (Eq.trans (if_pos (show (f_X12_isTree (x.2 0) a1) = 0 from b6)) (Eq.trans (if_neg (show ¬ ((sdL (x.2 0) a1 (Int32.toNatClampNeg ((x.2 0) 6)) 0) < 0) from b14)) (Eq.trans (if_pos (show (sdL (x.2 0) a1 (Int32.toNatClampNeg ((x.2 0) 6)) 0) = a2 from b23)) (Eq.trans (if_pos (show ((x.2 0) 3) = a1 from b33)) (if_pos (show a3 = 0 from b48))))))))
theorem n8_of {v : Nat → Int32} (hv : kMv v) (h : ¬ v 6 = 8) : kP8 (v 6) := by
  obtain ⟨n, hn, e⟩ := hv.1
  refine ⟨n, ?_, e⟩
  rcases Nat.lt_or_ge n 8 with q | q
  · exact q
  · exact absurd (show v 6 = 8 by rw [e, show n = 8 by omega]; rfl) h
theorem p8_sv {a : Int32} (h : kP8 a) : vp_in (76 + 2 * a + 1) 116 := by
  obtain ⟨n, hn, rfl⟩ := h
  have h2 : ∀ n, n < 8 → (76 : Int32) + 2 * nI n + 1 = nI (77 + 2 * n) := by decide
  rw [h2 n hn]
  exact vp_in_nI (by omega) (by omega)
theorem ms_v {x : kY} {a b c : Int32} : (g_X12_mayStand x a b c).2 = x.2 := by
  unfold g_X12_mayStand
  repeat' split
  all_goals rfl
def f_X12_adds (x : kY) (a1 : Int32) (a2 : Int32) : Int32 := if (f_X12_isCell a1 a2) = 0 then (f_X12_fail x 1) else (if ((x.2 0) 6) = 8 then (f_X12_fail x 2) else (if (f_X12_mayStand x ((8 * a2) + a1) (-1) 3) = 0 then 0 else ((x.2 0) 6)))
def g_X12_adds (x : kY) (a1 : Int32) (a2 : Int32) : kY := if (f_X12_isCell a1 a2) = 0 then (g_X12_fail x 1) else (if ((x.2 0) 6) = 8 then (g_X12_fail x 2) else (if (f_X12_mayStand x ((8 * a2) + a1) (-1) 3) = 0 then (g_X12_mayStand x ((8 * a2) + a1) (-1) 3) else (yR (yR (yR (g_X12_mayStand x ((8 * a2) + a1) (-1) 3) 0 (upd ((g_X12_mayStand x ((8 * a2) + a1) (-1) 3).2 0) (Int32.toNatClampNeg (76 + (2 * ((x.2 0) 6)))) ((8 * a2) + a1))) 0 (upd (upd ((g_X12_mayStand x ((8 * a2) + a1) (-1) 3).2 0) (Int32.toNatClampNeg (76 + (2 * ((x.2 0) 6)))) ((8 * a2) + a1)) (Int32.toNatClampNeg ((76 + (2 * ((x.2 0) 6))) + 1)) 0)) 0 (upd (upd (upd ((g_X12_mayStand x ((8 * a2) + a1) (-1) 3).2 0) (Int32.toNatClampNeg (76 + (2 * ((x.2 0) 6)))) ((8 * a2) + a1)) (Int32.toNatClampNeg ((76 + (2 * ((x.2 0) 6))) + 1)) 0) 6 (((upd (upd ((g_X12_mayStand x ((8 * a2) + a1) (-1) 3).2 0) (Int32.toNatClampNeg (76 + (2 * ((x.2 0) 6)))) ((8 * a2) + a1)) (Int32.toNatClampNeg ((76 + (2 * ((x.2 0) 6))) + 1)) 0) 6) + 1)))))
set_option maxRecDepth 100000 in
set_option maxHeartbeats 4000000 in
theorem m_X12_adds {x : kY} {a9 : kH} {z9 : kE × kE} {a1 : Int32} {a2 : Int32} (hv : kMv (x.2 0)) : kMet kX12_adds false 0 0 [.ref 116, .int a1, .int a2] (kTp a9 (kHr x z9)) 130 (kRt (some (.int (f_X12_adds x a1 a2))) (kTp a9 (kHr (g_X12_adds x a1 a2) z9)) 130) := by
  refine kMet.in (by decide) rfl rfl _ rfl ?_
  refine k_iload_n (i := 1) dX12_adds_0 (rfl : 0 + 1 = 1) rfl rfl ?_
  refine k_iload_n (i := 2) dX12_adds_1 (rfl : 1 + 1 = 2) rfl rfl ?_
  refine k_callSd2 cv_X12_81 ⟨Nat.le_of_ble_eq_true rfl, Nat.le_of_ble_eq_true rfl⟩ (m_X12_isCell) dX12_adds_2 (rfl : 2 + 3 = 5) rfl ⟨Nat.le_of_ble_eq_true rfl, Nat.le_of_ble_eq_true rfl⟩ ?_
  refine k_if_ne (tgt := 14) dX12_adds_5 (rfl : 5 + 3 = 8) (by decide) (fun b5 => ?_) (fun b5 => ?_)
  · refine k_aload_n (i := 0) dX12_adds_14 (rfl : 14 + 1 = 15) rfl rfl ?_
    refine k_get 12 7 fg_X12_16 dX12_adds_15 (rfl : 15 + 3 = 18) (Nat.le_of_ble_eq_true rfl) rfl rfl ?_
    refine k_bipush (v := 6) dX12_adds_18 (rfl : 18 + 2 = 20) (by decide) ?_
    refine k_ialdc (c := 6) (by decide) dX12_adds_20 (rfl : 20 + 1 = 21) (Nat.le_of_ble_eq_true rfl) rfl (vp_in_iff.mpr (by decide)) ?_
    refine k_istore_n (i := 3) dX12_adds_21 (rfl : 21 + 1 = 22) rfl (Nat.le_of_ble_eq_true rfl) ?_
    refine k_ls (ls2 := [.ref 116, .int a1, .int a2, .int ((x.2 0) 6)]) rfl ?_
    refine k_iload_n (i := 3) dX12_adds_22 (rfl : 22 + 1 = 23) rfl rfl ?_
    refine k_bipush (v := 8) dX12_adds_23 (rfl : 23 + 2 = 25) (by decide) ?_
    refine k_icmp_ne (tgt := 34) dX12_adds_25 (rfl : 25 + 3 = 28) (by decide) (fun b25 => ?_) (fun b25 => ?_)
    · refine k_aload_n (i := 0) dX12_adds_34 (rfl : 34 + 1 = 35) rfl rfl ?_
      refine k_bipush (v := 8) dX12_adds_35 (rfl : 35 + 2 = 37) (by decide) ?_
      refine k_iload_n (i := 2) dX12_adds_37 (rfl : 37 + 1 = 38) rfl rfl ?_
      refine k_imul dX12_adds_38 (rfl : 38 + 1 = 39) ?_
      refine k_iload_n (i := 1) dX12_adds_39 (rfl : 39 + 1 = 40) rfl rfl ?_
      refine k_iadd dX12_adds_40 (rfl : 40 + 1 = 41) ?_
      refine k_iconst (v := (-1)) dX12_adds_41 (rfl : 41 + 1 = 42) (by decide) ?_
      refine k_iconst (v := 3) dX12_adds_42 (rfl : 42 + 1 = 43) (by decide) ?_
      refine k_callVd3 cv_X12_134 ⟨Nat.le_of_ble_eq_true rfl, Nat.le_of_ble_eq_true rfl⟩ (m_X12_mayStand (ic_c b5) hv) dX12_adds_43 (rfl : 43 + 3 = 46) (Nat.le_of_ble_eq_true rfl) rfl rfl rfl ⟨Nat.le_of_ble_eq_true rfl, Nat.le_of_ble_eq_true rfl⟩ ?_
      refine k_if_ne (tgt := 51) dX12_adds_46 (rfl : 46 + 3 = 49) (by decide) (fun b46 => ?_) (fun b46 => ?_)
      · refine k_aload_n (i := 0) dX12_adds_51 (rfl : 51 + 1 = 52) rfl rfl ?_
        refine k_get 12 7 fg_X12_16 dX12_adds_52 (rfl : 52 + 3 = 55) (Nat.le_of_ble_eq_true rfl) rfl rfl ?_
        refine k_bipush (v := 76) dX12_adds_55 (rfl : 55 + 2 = 57) (by decide) ?_
        refine k_iconst (v := 2) dX12_adds_57 (rfl : 57 + 1 = 58) (by decide) ?_
        refine k_iload_n (i := 3) dX12_adds_58 (rfl : 58 + 1 = 59) rfl rfl ?_
        refine k_imul dX12_adds_59 (rfl : 59 + 1 = 60) ?_
        refine k_iadd dX12_adds_60 (rfl : 60 + 1 = 61) ?_
        refine k_bipush (v := 8) dX12_adds_61 (rfl : 61 + 2 = 63) (by decide) ?_
        refine k_iload_n (i := 2) dX12_adds_63 (rfl : 63 + 1 = 64) rfl rfl ?_
        refine k_imul dX12_adds_64 (rfl : 64 + 1 = 65) ?_
        refine k_iload_n (i := 1) dX12_adds_65 (rfl : 65 + 1 = 66) rfl rfl ?_
        refine k_iadd dX12_adds_66 (rfl : 66 + 1 = 67) ?_
        refine k_iast dX12_adds_67 (rfl : 67 + 1 = 68) (Nat.le_of_ble_eq_true rfl) rfl (p8_cell (n8_of hv b25)).1 ?_
        refine kf_Z0 (f := (upd ((g_X12_mayStand x ((8 * a2) + a1) (-1) 3).2 0) (Int32.toNatClampNeg (76 + (2 * ((x.2 0) 6)))) ((8 * a2) + a1))) rfl ?_
        refine k_aload_n (i := 0) dX12_adds_68 (rfl : 68 + 1 = 69) rfl rfl ?_
        refine k_get 12 7 fg_X12_16 dX12_adds_69 (rfl : 69 + 3 = 72) (Nat.le_of_ble_eq_true rfl) rfl rfl ?_
        refine k_bipush (v := 76) dX12_adds_72 (rfl : 72 + 2 = 74) (by decide) ?_
        refine k_iconst (v := 2) dX12_adds_74 (rfl : 74 + 1 = 75) (by decide) ?_
        refine k_iload_n (i := 3) dX12_adds_75 (rfl : 75 + 1 = 76) rfl rfl ?_
        refine k_imul dX12_adds_76 (rfl : 76 + 1 = 77) ?_
        refine k_iadd dX12_adds_77 (rfl : 77 + 1 = 78) ?_
        refine k_iconst (v := 1) dX12_adds_78 (rfl : 78 + 1 = 79) (by decide) ?_
        refine k_iadd dX12_adds_79 (rfl : 79 + 1 = 80) ?_
        refine k_iconst (v := 0) dX12_adds_80 (rfl : 80 + 1 = 81) (by decide) ?_
        refine k_iast dX12_adds_81 (rfl : 81 + 1 = 82) (Nat.le_of_ble_eq_true rfl) rfl (p8_sv (n8_of hv b25)) ?_
        refine kf_Z0 (f := (upd (upd ((g_X12_mayStand x ((8 * a2) + a1) (-1) 3).2 0) (Int32.toNatClampNeg (76 + (2 * ((x.2 0) 6)))) ((8 * a2) + a1)) (Int32.toNatClampNeg ((76 + (2 * ((x.2 0) 6))) + 1)) 0)) rfl ?_
        refine k_aload_n (i := 0) dX12_adds_82 (rfl : 82 + 1 = 83) rfl rfl ?_
        refine k_get 12 7 fg_X12_16 dX12_adds_83 (rfl : 83 + 3 = 86) (Nat.le_of_ble_eq_true rfl) rfl rfl ?_
        refine k_bipush (v := 6) dX12_adds_86 (rfl : 86 + 2 = 88) (by decide) ?_
        refine k_dup2_11 dX12_adds_88 (rfl : 88 + 1 = 89) rfl rfl ?_
        refine k_ialdc (c := 6) (by decide) dX12_adds_89 (rfl : 89 + 1 = 90) (Nat.le_of_ble_eq_true rfl) rfl (vp_in_iff.mpr (by decide)) ?_
        refine k_iconst (v := 1) dX12_adds_90 (rfl : 90 + 1 = 91) (by decide) ?_
        refine k_iadd dX12_adds_91 (rfl : 91 + 1 = 92) ?_
        refine k_iastc (c := 6) (by decide) dX12_adds_92 (rfl : 92 + 1 = 93) (Nat.le_of_ble_eq_true rfl) rfl (vp_in_iff.mpr (by decide)) ?_
        refine kf_Z0 (f := (upd (upd (upd ((g_X12_mayStand x ((8 * a2) + a1) (-1) 3).2 0) (Int32.toNatClampNeg (76 + (2 * ((x.2 0) 6)))) ((8 * a2) + a1)) (Int32.toNatClampNeg ((76 + (2 * ((x.2 0) 6))) + 1)) 0) 6 (((upd (upd ((g_X12_mayStand x ((8 * a2) + a1) (-1) 3).2 0) (Int32.toNatClampNeg (76 + (2 * ((x.2 0) 6)))) ((8 * a2) + a1)) (Int32.toNatClampNeg ((76 + (2 * ((x.2 0) 6))) + 1)) 0) 6) + 1))) rfl ?_
        refine k_iload_n (i := 3) dX12_adds_93 (rfl : 93 + 1 = 94) rfl rfl ?_
        refine k_iret rfl rfl dX12_adds_94 (Nat.le_of_ble_eq_true rfl) (Nat.le_of_ble_eq_true rfl) ?_
        exact kRt_of (congrArg (fun z => some (Value.int z)) (Eq.symm (Eq.trans (if_neg (show ¬ ((f_X12_isCell a1 a2) = 0) from b5)) (Eq.trans (if_neg (show ¬ (((x.2 0) 6) = 8) from b25)) (if_neg (show ¬ ((f_X12_mayStand x ((8 * a2) + a1) (-1) 3) = 0) from b46)))))) (congrArg (fun z => kTp a9 (kHr z z9)) (Eq.symm (Eq.trans (if_neg (show ¬ ((f_X12_isCell a1 a2) = 0) from b5)) (Eq.trans (if_neg (show ¬ (((x.2 0) 6) = 8) from b25)) (if_neg (show ¬ ((f_X12_mayStand x ((8 * a2) + a1) (-1) 3) = 0) from b46))))))
      · refine k_iconst (v := 0) dX12_adds_49 (rfl : 49 + 1 = 50) (by decide) ?_
        refine k_iret rfl rfl dX12_adds_50 (Nat.le_of_ble_eq_true rfl) (Nat.le_of_ble_eq_true rfl) ?_
        exact kRt_of (congrArg (fun z => some (Value.int z)) (Eq.symm (Eq.trans (if_neg (show ¬ ((f_X12_isCell a1 a2) = 0) from b5)) (Eq.trans (if_neg (show ¬ (((x.2 0) 6) = 8) from b25)) (if_pos (show (f_X12_mayStand x ((8 * a2) + a1) (-1) 3) = 0 from b46)))))) (congrArg (fun z => kTp a9 (kHr z z9)) (Eq.symm (Eq.trans (if_neg (show ¬ ((f_X12_isCell a1 a2) = 0) from b5)) (Eq.trans (if_neg (show ¬ (((x.2 0) 6) = 8) from b25)) (if_pos (show (f_X12_mayStand x ((8 * a2) + a1) (-1) 3) = 0 from b46))))))
    · refine k_aload_n (i := 0) dX12_adds_28 (rfl : 28 + 1 = 29) rfl rfl ?_
      refine k_iconst (v := 2) dX12_adds_29 (rfl : 29 + 1 = 30) (by decide) ?_
      refine k_callVd1 cv_X12_59 ⟨Nat.le_of_ble_eq_true rfl, Nat.le_of_ble_eq_true rfl⟩ (m_X12_fail) dX12_adds_30 (rfl : 30 + 3 = 33) (Nat.le_of_ble_eq_true rfl) rfl rfl rfl ⟨Nat.le_of_ble_eq_true rfl, Nat.le_of_ble_eq_true rfl⟩ ?_
      refine k_iret rfl rfl dX12_adds_33 (Nat.le_of_ble_eq_true rfl) (Nat.le_of_ble_eq_true rfl) ?_
      exact kRt_of (congrArg (fun z => some (Value.int z)) (Eq.symm (Eq.trans (if_neg (show ¬ ((f_X12_isCell a1 a2) = 0) from b5)) (if_pos (show ((x.2 0) 6) = 8 from b25))))) (congrArg (fun z => kTp a9 (kHr z z9)) (Eq.symm (Eq.trans (if_neg (show ¬ ((f_X12_isCell a1 a2) = 0) from b5)) (if_pos (show ((x.2 0) 6) = 8 from b25)))))
  · refine k_aload_n (i := 0) dX12_adds_8 (rfl : 8 + 1 = 9) rfl rfl ?_
    refine k_iconst (v := 1) dX12_adds_9 (rfl : 9 + 1 = 10) (by decide) ?_
    refine k_callVd1 cv_X12_59 ⟨Nat.le_of_ble_eq_true rfl, Nat.le_of_ble_eq_true rfl⟩ (m_X12_fail) dX12_adds_10 (rfl : 10 + 3 = 13) (Nat.le_of_ble_eq_true rfl) rfl rfl rfl ⟨Nat.le_of_ble_eq_true rfl, Nat.le_of_ble_eq_true rfl⟩ ?_
    refine k_iret rfl rfl dX12_adds_13 (Nat.le_of_ble_eq_true rfl) (Nat.le_of_ble_eq_true rfl) ?_
    exact kRt_of (congrArg (fun z => some (Value.int z)) (Eq.symm (if_pos (show (f_X12_isCell a1 a2) = 0 from b5)))) (congrArg (fun z => kTp a9 (kHr z z9)) (Eq.symm (if_pos (show (f_X12_isCell a1 a2) = 0 from b5))))
def f_X12_moves (x : kY) (a1 : Int32) (a2 : Int32) (a3 : Int32) : Int32 := if (f_X12_isParty (x.2 0) a1) = 0 then (f_X12_fail x 1) else (if (f_X12_isCell a2 a3) = 0 then (f_X12_fail x 1) else (if (f_X12_mayStand x ((8 * a3) + a2) a1 2) = 0 then 0 else (f_X12_cellOfParty ((g_X12_mayStand x ((8 * a3) + a2) a1 2).2 0) a1)))
def g_X12_moves (x : kY) (a1 : Int32) (a2 : Int32) (a3 : Int32) : kY := if (f_X12_isParty (x.2 0) a1) = 0 then (g_X12_fail x 1) else (if (f_X12_isCell a2 a3) = 0 then (g_X12_fail x 1) else (if (f_X12_mayStand x ((8 * a3) + a2) a1 2) = 0 then (g_X12_mayStand x ((8 * a3) + a2) a1 2) else (yR (g_X12_mayStand x ((8 * a3) + a2) a1 2) 0 (upd ((g_X12_mayStand x ((8 * a3) + a2) a1 2).2 0) (Int32.toNatClampNeg (76 + (2 * a1))) ((8 * a3) + a2)))))
set_option maxRecDepth 100000 in
set_option maxHeartbeats 4000000 in
theorem m_X12_moves {x : kY} {a9 : kH} {z9 : kE × kE} {a1 : Int32} {a2 : Int32} {a3 : Int32} (hv : kMv (x.2 0)) : kMet kX12_moves false 0 0 [.ref 116, .int a1, .int a2, .int a3] (kTp a9 (kHr x z9)) 130 (kRt (some (.int (f_X12_moves x a1 a2 a3))) (kTp a9 (kHr (g_X12_moves x a1 a2 a3) z9)) 130) := by
  refine kMet.in (by decide) rfl rfl _ rfl ?_
  refine k_aload_n (i := 0) dX12_moves_0 (rfl : 0 + 1 = 1) rfl rfl ?_
  refine k_iload_n (i := 1) dX12_moves_1 (rfl : 1 + 1 = 2) rfl rfl ?_
  refine k_callVd1 cv_X12_140 ⟨Nat.le_of_ble_eq_true rfl, Nat.le_of_ble_eq_true rfl⟩ (m_X12_isParty) dX12_moves_2 (rfl : 2 + 3 = 5) (Nat.le_of_ble_eq_true rfl) rfl rfl rfl ⟨Nat.le_of_ble_eq_true rfl, Nat.le_of_ble_eq_true rfl⟩ ?_
  refine k_if_eq (tgt := 16) dX12_moves_5 (rfl : 5 + 3 = 8) (by decide) (fun b5 => ?_) (fun b5 => ?_)
  · refine k_aload_n (i := 0) dX12_moves_16 (rfl : 16 + 1 = 17) rfl rfl ?_
    refine k_iconst (v := 1) dX12_moves_17 (rfl : 17 + 1 = 18) (by decide) ?_
    refine k_callVd1 cv_X12_59 ⟨Nat.le_of_ble_eq_true rfl, Nat.le_of_ble_eq_true rfl⟩ (m_X12_fail) dX12_moves_18 (rfl : 18 + 3 = 21) (Nat.le_of_ble_eq_true rfl) rfl rfl rfl ⟨Nat.le_of_ble_eq_true rfl, Nat.le_of_ble_eq_true rfl⟩ ?_
    refine k_iret rfl rfl dX12_moves_21 (Nat.le_of_ble_eq_true rfl) (Nat.le_of_ble_eq_true rfl) ?_
    exact kRt_of (congrArg (fun z => some (Value.int z)) (Eq.symm (if_pos (show (f_X12_isParty (x.2 0) a1) = 0 from b5)))) (congrArg (fun z => kTp a9 (kHr z z9)) (Eq.symm (if_pos (show (f_X12_isParty (x.2 0) a1) = 0 from b5))))
  · refine k_iload_n (i := 2) dX12_moves_8 (rfl : 8 + 1 = 9) rfl rfl ?_
    refine k_iload_n (i := 3) dX12_moves_9 (rfl : 9 + 1 = 10) rfl rfl ?_
    refine k_callSd2 cv_X12_81 ⟨Nat.le_of_ble_eq_true rfl, Nat.le_of_ble_eq_true rfl⟩ (m_X12_isCell) dX12_moves_10 (rfl : 10 + 3 = 13) rfl ⟨Nat.le_of_ble_eq_true rfl, Nat.le_of_ble_eq_true rfl⟩ ?_
    refine k_if_ne (tgt := 22) dX12_moves_13 (rfl : 13 + 3 = 16) (by decide) (fun b13 => ?_) (fun b13 => ?_)
    · refine k_aload_n (i := 0) dX12_moves_22 (rfl : 22 + 1 = 23) rfl rfl ?_
      refine k_bipush (v := 8) dX12_moves_23 (rfl : 23 + 2 = 25) (by decide) ?_
      refine k_iload_n (i := 3) dX12_moves_25 (rfl : 25 + 1 = 26) rfl rfl ?_
      refine k_imul dX12_moves_26 (rfl : 26 + 1 = 27) ?_
      refine k_iload_n (i := 2) dX12_moves_27 (rfl : 27 + 1 = 28) rfl rfl ?_
      refine k_iadd dX12_moves_28 (rfl : 28 + 1 = 29) ?_
      refine k_iload_n (i := 1) dX12_moves_29 (rfl : 29 + 1 = 30) rfl rfl ?_
      refine k_iconst (v := 2) dX12_moves_30 (rfl : 30 + 1 = 31) (by decide) ?_
      refine k_callVd3 cv_X12_134 ⟨Nat.le_of_ble_eq_true rfl, Nat.le_of_ble_eq_true rfl⟩ (m_X12_mayStand (ic_c b13) hv) dX12_moves_31 (rfl : 31 + 3 = 34) (Nat.le_of_ble_eq_true rfl) rfl rfl rfl ⟨Nat.le_of_ble_eq_true rfl, Nat.le_of_ble_eq_true rfl⟩ ?_
      refine k_if_ne (tgt := 39) dX12_moves_34 (rfl : 34 + 3 = 37) (by decide) (fun b34 => ?_) (fun b34 => ?_)
      · refine k_aload_n (i := 0) dX12_moves_39 (rfl : 39 + 1 = 40) rfl rfl ?_
        refine k_iload_n (i := 1) dX12_moves_40 (rfl : 40 + 1 = 41) rfl rfl ?_
        refine k_callVd1 cv_X12_74 ⟨Nat.le_of_ble_eq_true rfl, Nat.le_of_ble_eq_true rfl⟩ (m_X12_cellOfParty (ip_8 hv b5)) dX12_moves_41 (rfl : 41 + 3 = 44) (Nat.le_of_ble_eq_true rfl) rfl rfl rfl ⟨Nat.le_of_ble_eq_true rfl, Nat.le_of_ble_eq_true rfl⟩ ?_
        refine k_istore (i := 4) dX12_moves_44 (rfl : 44 + 2 = 46) (Nat.le_of_ble_eq_true rfl) ?_
        refine k_ls (ls2 := [.ref 116, .int a1, .int a2, .int a3, .int (f_X12_cellOfParty ((g_X12_mayStand x ((8 * a3) + a2) a1 2).2 0) a1)]) rfl ?_
        refine k_aload_n (i := 0) dX12_moves_46 (rfl : 46 + 1 = 47) rfl rfl ?_
        refine k_get 12 7 fg_X12_16 dX12_moves_47 (rfl : 47 + 3 = 50) (Nat.le_of_ble_eq_true rfl) rfl rfl ?_
        refine k_bipush (v := 76) dX12_moves_50 (rfl : 50 + 2 = 52) (by decide) ?_
        refine k_iconst (v := 2) dX12_moves_52 (rfl : 52 + 1 = 53) (by decide) ?_
        refine k_iload_n (i := 1) dX12_moves_53 (rfl : 53 + 1 = 54) rfl rfl ?_
        refine k_imul dX12_moves_54 (rfl : 54 + 1 = 55) ?_
        refine k_iadd dX12_moves_55 (rfl : 55 + 1 = 56) ?_
        refine k_bipush (v := 8) dX12_moves_56 (rfl : 56 + 2 = 58) (by decide) ?_
        refine k_iload_n (i := 3) dX12_moves_58 (rfl : 58 + 1 = 59) rfl rfl ?_
        refine k_imul dX12_moves_59 (rfl : 59 + 1 = 60) ?_
        refine k_iload_n (i := 2) dX12_moves_60 (rfl : 60 + 1 = 61) rfl rfl ?_
        refine k_iadd dX12_moves_61 (rfl : 61 + 1 = 62) ?_
        refine k_iast dX12_moves_62 (rfl : 62 + 1 = 63) (Nat.le_of_ble_eq_true rfl) rfl (p8_cell (ip_8 hv b5)).1 ?_
        refine kf_Z0 (f := (upd ((g_X12_mayStand x ((8 * a3) + a2) a1 2).2 0) (Int32.toNatClampNeg (76 + (2 * a1))) ((8 * a3) + a2))) rfl ?_
        refine k_iload (i := 4) dX12_moves_63 (rfl : 63 + 2 = 65) rfl ?_
        refine k_iret rfl rfl dX12_moves_65 (Nat.le_of_ble_eq_true rfl) (Nat.le_of_ble_eq_true rfl) ?_
        exact kRt_of (congrArg (fun z => some (Value.int z)) (Eq.symm (Eq.trans (if_neg (show ¬ ((f_X12_isParty (x.2 0) a1) = 0) from b5)) (Eq.trans (if_neg (show ¬ ((f_X12_isCell a2 a3) = 0) from b13)) (if_neg (show ¬ ((f_X12_mayStand x ((8 * a3) + a2) a1 2) = 0) from b34)))))) (congrArg (fun z => kTp a9 (kHr z z9)) (Eq.symm (Eq.trans (if_neg (show ¬ ((f_X12_isParty (x.2 0) a1) = 0) from b5)) (Eq.trans (if_neg (show ¬ ((f_X12_isCell a2 a3) = 0) from b13)) (if_neg (show ¬ ((f_X12_mayStand x ((8 * a3) + a2) a1 2) = 0) from b34))))))
      · refine k_iconst (v := 0) dX12_moves_37 (rfl : 37 + 1 = 38) (by decide) ?_
        refine k_iret rfl rfl dX12_moves_38 (Nat.le_of_ble_eq_true rfl) (Nat.le_of_ble_eq_true rfl) ?_
        exact kRt_of (congrArg (fun z => some (Value.int z)) (Eq.symm (Eq.trans (if_neg (show ¬ ((f_X12_isParty (x.2 0) a1) = 0) from b5)) (Eq.trans (if_neg (show ¬ ((f_X12_isCell a2 a3) = 0) from b13)) (if_pos (show (f_X12_mayStand x ((8 * a3) + a2) a1 2) = 0 from b34)))))) (congrArg (fun z => kTp a9 (kHr z z9)) (Eq.symm (Eq.trans (if_neg (show ¬ ((f_X12_isParty (x.2 0) a1) = 0) from b5)) (Eq.trans (if_neg (show ¬ ((f_X12_isCell a2 a3) = 0) from b13)) (if_pos (show (f_X12_mayStand x ((8 * a3) + a2) a1 2) = 0 from b34))))))
    · refine k_aload_n (i := 0) dX12_moves_16 (rfl : 16 + 1 = 17) rfl rfl ?_
      refine k_iconst (v := 1) dX12_moves_17 (rfl : 17 + 1 = 18) (by decide) ?_
      refine k_callVd1 cv_X12_59 ⟨Nat.le_of_ble_eq_true rfl, Nat.le_of_ble_eq_true rfl⟩ (m_X12_fail) dX12_moves_18 (rfl : 18 + 3 = 21) (Nat.le_of_ble_eq_true rfl) rfl rfl rfl ⟨Nat.le_of_ble_eq_true rfl, Nat.le_of_ble_eq_true rfl⟩ ?_
      refine k_iret rfl rfl dX12_moves_21 (Nat.le_of_ble_eq_true rfl) (Nat.le_of_ble_eq_true rfl) ?_
      exact kRt_of (congrArg (fun z => some (Value.int z)) (Eq.symm (Eq.trans (if_neg (show ¬ ((f_X12_isParty (x.2 0) a1) = 0) from b5)) (if_pos (show (f_X12_isCell a2 a3) = 0 from b13))))) (congrArg (fun z => kTp a9 (kHr z z9)) (Eq.symm (Eq.trans (if_neg (show ¬ ((f_X12_isParty (x.2 0) a1) = 0) from b5)) (if_pos (show (f_X12_isCell a2 a3) = 0 from b13)))))
