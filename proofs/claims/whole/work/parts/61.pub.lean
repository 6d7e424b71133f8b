def f_X12_setTree (x : kY) (a1 : Int32) (a2 : Int32) (a3 : Int32) : Int32 := (f_X12_ends (g_X12_plants (g_X12_begins x ) a1 a2 a3) (f_X12_plants (g_X12_begins x ) a1 a2 a3))
def g_X12_setTree (x : kY) (a1 : Int32) (a2 : Int32) (a3 : Int32) : kY := (g_X12_ends (g_X12_plants (g_X12_begins x ) a1 a2 a3) (f_X12_plants (g_X12_begins x ) a1 a2 a3))
set_option maxRecDepth 100000 in
set_option maxHeartbeats 4000000 in
theorem m_X12_setTree {x : kY} {a9 : kH} {z9 : kE × kE} {a1 : Int32} {a2 : Int32} {a3 : Int32} (hc : ∃ c, c ≤ 8 ∧ x.1 1 = nI c) (hv : kMv (x.2 0)) : kMet kX12_setTree false 0 0 [.ref 116, .int a1, .int a2, .int a3] (kTp a9 (kHr x z9)) 130 (kRt (some (.int (f_X12_setTree x a1 a2 a3))) (kTp a9 (kHr (g_X12_setTree x a1 a2 a3) z9)) 130) := by
  refine kMet.in (by decide) rfl rfl _ rfl ?_
  refine k_aload_n (i := 0) dX12_setTree_0 (rfl : 0 + 1 = 1) rfl rfl ?_
  refine k_callVv0 cv_X12_96 ⟨Nat.le_of_ble_eq_true rfl, Nat.le_of_ble_eq_true rfl⟩ (m_X12_begins) dX12_setTree_1 (rfl : 1 + 3 = 4) (Nat.le_of_ble_eq_true rfl) rfl rfl rfl ⟨Nat.le_of_ble_eq_true rfl, Nat.le_of_ble_eq_true rfl⟩ ?_
  refine k_aload_n (i := 0) dX12_setTree_4 (rfl : 4 + 1 = 5) rfl rfl ?_
  refine k_aload_n (i := 0) dX12_setTree_5 (rfl : 5 + 1 = 6) rfl rfl ?_
  refine k_iload_n (i := 1) dX12_setTree_6 (rfl : 6 + 1 = 7) rfl rfl ?_
  refine k_iload_n (i := 2) dX12_setTree_7 (rfl : 7 + 1 = 8) rfl rfl ?_
  refine k_iload_n (i := 3) dX12_setTree_8 (rfl : 8 + 1 = 9) rfl rfl ?_
  refine k_callVd3 cv_X12_99 ⟨Nat.le_of_ble_eq_true rfl, Nat.le_of_ble_eq_true rfl⟩ (m_X12_plants hv) dX12_setTree_9 (rfl : 9 + 3 = 12) (Nat.le_of_ble_eq_true rfl) rfl rfl rfl ⟨Nat.le_of_ble_eq_true rfl, Nat.le_of_ble_eq_true rfl⟩ ?_
  refine k_callVd1 cv_X12_103 ⟨Nat.le_of_ble_eq_true rfl, Nat.le_of_ble_eq_true rfl⟩ (m_X12_ends (ch_ac ac_plants hc)) dX12_setTree_12 (rfl : 12 + 3 = 15) (Nat.le_of_ble_eq_true rfl) rfl rfl rfl ⟨Nat.le_of_ble_eq_true rfl, Nat.le_of_ble_eq_true rfl⟩ ?_
  refine k_iret rfl rfl dX12_setTree_15 (Nat.le_of_ble_eq_true rfl) (Nat.le_of_ble_eq_true rfl) ?_
  exact kRt_of rfl rfl
def f_X12_setBench (x : kY) (a1 : Int32) (a2 : Int32) : Int32 := (f_X12_ends (g_X12_benches (g_X12_begins x ) a1 a2) (f_X12_benches (g_X12_begins x ) a1 a2))
def g_X12_setBench (x : kY) (a1 : Int32) (a2 : Int32) : kY := (g_X12_ends (g_X12_benches (g_X12_begins x ) a1 a2) (f_X12_benches (g_X12_begins x ) a1 a2))
set_option maxRecDepth 100000 in
set_option maxHeartbeats 4000000 in
theorem m_X12_setBench {x : kY} {a9 : kH} {z9 : kE × kE} {a1 : Int32} {a2 : Int32} (hc : ∃ c, c ≤ 8 ∧ x.1 1 = nI c) (hv : kMv (x.2 0)) : kMet kX12_setBench false 0 0 [.ref 116, .int a1, .int a2] (kTp a9 (kHr x z9)) 130 (kRt (some (.int (f_X12_setBench x a1 a2))) (kTp a9 (kHr (g_X12_setBench x a1 a2) z9)) 130) := by
  refine kMet.in (by decide) rfl rfl _ rfl ?_
  refine k_aload_n (i := 0) dX12_setBench_0 (rfl : 0 + 1 = 1) rfl rfl ?_
  refine k_callVv0 cv_X12_96 ⟨Nat.le_of_ble_eq_true rfl, Nat.le_of_ble_eq_true rfl⟩ (m_X12_begins) dX12_setBench_1 (rfl : 1 + 3 = 4) (Nat.le_of_ble_eq_true rfl) rfl rfl rfl ⟨Nat.le_of_ble_eq_true rfl, Nat.le_of_ble_eq_true rfl⟩ ?_
  refine k_aload_n (i := 0) dX12_setBench_4 (rfl : 4 + 1 = 5) rfl rfl ?_
  refine k_aload_n (i := 0) dX12_setBench_5 (rfl : 5 + 1 = 6) rfl rfl ?_
  refine k_iload_n (i := 1) dX12_setBench_6 (rfl : 6 + 1 = 7) rfl rfl ?_
  refine k_iload_n (i := 2) dX12_setBench_7 (rfl : 7 + 1 = 8) rfl rfl ?_
  refine k_callVd2 cv_X12_110 ⟨Nat.le_of_ble_eq_true rfl, Nat.le_of_ble_eq_true rfl⟩ (m_X12_benches hv) dX12_setBench_8 (rfl : 8 + 3 = 11) (Nat.le_of_ble_eq_true rfl) rfl rfl rfl ⟨Nat.le_of_ble_eq_true rfl, Nat.le_of_ble_eq_true rfl⟩ ?_
  refine k_callVd1 cv_X12_103 ⟨Nat.le_of_ble_eq_true rfl, Nat.le_of_ble_eq_true rfl⟩ (m_X12_ends (ch_ac ac_benches hc)) dX12_setBench_11 (rfl : 11 + 3 = 14) (Nat.le_of_ble_eq_true rfl) rfl rfl rfl ⟨Nat.le_of_ble_eq_true rfl, Nat.le_of_ble_eq_true rfl⟩ ?_
  refine k_iret rfl rfl dX12_setBench_14 (Nat.le_of_ble_eq_true rfl) (Nat.le_of_ble_eq_true rfl) ?_
  exact kRt_of rfl rfl
def f_X12_setWind (x : kY) (a1 : Int32) (a2 : Int32) : Int32 := (f_X12_ends (g_X12_blows (g_X12_begins x ) a1 a2) (f_X12_blows (g_X12_begins x ) a1 a2))
def g_X12_setWind (x : kY) (a1 : Int32) (a2 : Int32) : kY := (g_X12_ends (g_X12_blows (g_X12_begins x ) a1 a2) (f_X12_blows (g_X12_begins x ) a1 a2))
set_option maxRecDepth 100000 in
set_option maxHeartbeats 4000000 in
theorem m_X12_setWind {x : kY} {a9 : kH} {z9 : kE × kE} {a1 : Int32} {a2 : Int32} (hc : ∃ c, c ≤ 8 ∧ x.1 1 = nI c) : kMet kX12_setWind false 0 0 [.ref 116, .int a1, .int a2] (kTp a9 (kHr x z9)) 130 (kRt (some (.int (f_X12_setWind x a1 a2))) (kTp a9 (kHr (g_X12_setWind x a1 a2) z9)) 130) := by
  refine kMet.in (by decide) rfl rfl _ rfl ?_
  refine k_aload_n (i := 0) dX12_setWind_0 (rfl : 0 + 1 = 1) rfl rfl ?_
  refine k_callVv0 cv_X12_96 ⟨Nat.le_of_ble_eq_true rfl, Nat.le_of_ble_eq_true rfl⟩ (m_X12_begins) dX12_setWind_1 (rfl : 1 + 3 = 4) (Nat.le_of_ble_eq_true rfl) rfl rfl rfl ⟨Nat.le_of_ble_eq_true rfl, Nat.le_of_ble_eq_true rfl⟩ ?_
  refine k_aload_n (i := 0) dX12_setWind_4 (rfl : 4 + 1 = 5) rfl rfl ?_
  refine k_aload_n (i := 0) dX12_setWind_5 (rfl : 5 + 1 = 6) rfl rfl ?_
  refine k_iload_n (i := 1) dX12_setWind_6 (rfl : 6 + 1 = 7) rfl rfl ?_
  refine k_iload_n (i := 2) dX12_setWind_7 (rfl : 7 + 1 = 8) rfl rfl ?_
  refine k_callVd2 cv_X12_128 ⟨Nat.le_of_ble_eq_true rfl, Nat.le_of_ble_eq_true rfl⟩ (m_X12_blows) dX12_setWind_8 (rfl : 8 + 3 = 11) (Nat.le_of_ble_eq_true rfl) rfl rfl rfl ⟨Nat.le_of_ble_eq_true rfl, Nat.le_of_ble_eq_true rfl⟩ ?_
  refine k_callVd1 cv_X12_103 ⟨Nat.le_of_ble_eq_true rfl, Nat.le_of_ble_eq_true rfl⟩ (m_X12_ends (ch_ac ac_blows hc)) dX12_setWind_11 (rfl : 11 + 3 = 14) (Nat.le_of_ble_eq_true rfl) rfl rfl rfl ⟨Nat.le_of_ble_eq_true rfl, Nat.le_of_ble_eq_true rfl⟩ ?_
  refine k_iret rfl rfl dX12_setWind_14 (Nat.le_of_ble_eq_true rfl) (Nat.le_of_ble_eq_true rfl) ?_
  exact kRt_of rfl rfl
def f_X12_addParty (x : kY) (a1 : Int32) (a2 : Int32) : Int32 := (f_X12_ends (g_X12_adds (g_X12_begins x ) a1 a2) (f_X12_adds (g_X12_begins x ) a1 a2))
def g_X12_addParty (x : kY) (a1 : Int32) (a2 : Int32) : kY := (g_X12_ends (g_X12_adds (g_X12_begins x ) a1 a2) (f_X12_adds (g_X12_begins x ) a1 a2))
set_option maxRecDepth 100000 in
set_option maxHeartbeats 4000000 in
theorem m_X12_addParty {x : kY} {a9 : kH} {z9 : kE × kE} {a1 : Int32} {a2 : Int32} (hc : ∃ c, c ≤ 8 ∧ x.1 1 = nI c) (hv : kMv (x.2 0)) : kMet kX12_addParty false 0 0 [.ref 116, .int a1, .int a2] (kTp a9 (kHr x z9)) 130 (kRt (some (.int (f_X12_addParty x a1 a2))) (kTp a9 (kHr (g_X12_addParty x a1 a2) z9)) 130) := by
  refine kMet.in (by decide) rfl rfl _ rfl ?_
  refine k_aload_n (i := 0) dX12_addParty_0 (rfl : 0 + 1 = 1) rfl rfl ?_
  refine k_callVv0 cv_X12_96 ⟨Nat.le_of_ble_eq_true rfl, Nat.le_of_ble_eq_true rfl⟩ (m_X12_begins) dX12_addParty_1 (rfl : 1 + 3 = 4) (Nat.le_of_ble_eq_true rfl) rfl rfl rfl ⟨Nat.le_of_ble_eq_true rfl, Nat.le_of_ble_eq_true rfl⟩ ?_
  refine k_aload_n (i := 0) dX12_addParty_4 (rfl : 4 + 1 = 5) rfl rfl ?_
  refine k_aload_n (i := 0) dX12_addParty_5 (rfl : 5 + 1 = 6) rfl rfl ?_
  refine k_iload_n (i := 1) dX12_addParty_6 (rfl : 6 + 1 = 7) rfl rfl ?_
  refine k_iload_n (i := 2) dX12_addParty_7 (rfl : 7 + 1 = 8) rfl rfl ?_
  refine k_callVd2 cv_X12_137 ⟨Nat.le_of_ble_eq_true rfl, Nat.le_of_ble_eq_true rfl⟩ (m_X12_adds hv) dX12_addParty_8 (rfl : 8 + 3 = 11) (Nat.le_of_ble_eq_true rfl) rfl rfl rfl ⟨Nat.le_of_ble_eq_true rfl, Nat.le_of_ble_eq_true rfl⟩ ?_
  refine k_callVd1 cv_X12_103 ⟨Nat.le_of_ble_eq_true rfl, Nat.le_of_ble_eq_true rfl⟩ (m_X12_ends (ch_ac ac_adds hc)) dX12_addParty_11 (rfl : 11 + 3 = 14) (Nat.le_of_ble_eq_true rfl) rfl rfl rfl ⟨Nat.le_of_ble_eq_true rfl, Nat.le_of_ble_eq_true rfl⟩ ?_
  refine k_iret rfl rfl dX12_addParty_14 (Nat.le_of_ble_eq_true rfl) (Nat.le_of_ble_eq_true rfl) ?_
  exact kRt_of rfl rfl
def f_X12_moveParty (x : kY) (a1 : Int32) (a2 : Int32) (a3 : Int32) : Int32 := (f_X12_ends (g_X12_moves (g_X12_begins x ) a1 a2 a3) (f_X12_moves (g_X12_begins x ) a1 a2 a3))
def g_X12_moveParty (x : kY) (a1 : Int32) (a2 : Int32) (a3 : Int32) : kY := (g_X12_ends (g_X12_moves (g_X12_begins x ) a1 a2 a3) (f_X12_moves (g_X12_begins x ) a1 a2 a3))
set_option maxRecDepth 100000 in
set_option maxHeartbeats 4000000 in
theorem m_X12_moveParty {x : kY} {a9 : kH} {z9 : kE × kE} {a1 : Int32} {a2 : Int32} {a3 : Int32} (hc : ∃ c, c ≤ 8 ∧ x.1 1 = nI c) (hv : kMv (x.2 0)) : kMet kX12_moveParty false 0 0 [.ref 116, .int a1, .int a2, .int a3] (kTp a9 (kHr x z9)) 130 (kRt (some (.int (f_X12_moveParty x a1 a2 a3))) (kTp a9 (kHr (g_X12_moveParty x a1 a2 a3) z9)) 130) := by
  refine kMet.in (by decide) rfl rfl _ rfl ?_
  refine k_aload_n (i := 0) dX12_moveParty_0 (rfl : 0 + 1 = 1) rfl rfl ?_
  refine k_callVv0 cv_X12_96 ⟨Nat.le_of_ble_eq_true rfl, Nat.le_of_ble_eq_true rfl⟩ (m_X12_begins) dX12_moveParty_1 (rfl : 1 + 3 = 4) (Nat.le_of_ble_eq_true rfl) rfl rfl rfl ⟨Nat.le_of_ble_eq_true rfl, Nat.le_of_ble_eq_true rfl⟩ ?_
  refine k_aload_n (i := 0) dX12_moveParty_4 (rfl : 4 + 1 = 5) rfl rfl ?_
  refine k_aload_n (i := 0) dX12_moveParty_5 (rfl : 5 + 1 = 6) rfl rfl ?_
  refine k_iload_n (i := 1) dX12_moveParty_6 (rfl : 6 + 1 = 7) rfl rfl ?_
  refine k_iload_n (i := 2) dX12_moveParty_7 (rfl : 7 + 1 = 8) rfl rfl ?_
  refine k_iload_n (i := 3) dX12_moveParty_8 (rfl : 8 + 1 = 9) rfl rfl ?_
  refine k_callVd3 cv_X12_143 ⟨Nat.le_of_ble_eq_true rfl, Nat.le_of_ble_eq_true rfl⟩ (m_X12_moves hv) dX12_moveParty_9 (rfl : 9 + 3 = 12) (Nat.le_of_ble_eq_true rfl) rfl rfl rfl ⟨Nat.le_of_ble_eq_true rfl, Nat.le_of_ble_eq_true rfl⟩ ?_
  refine k_callVd1 cv_X12_103 ⟨Nat.le_of_ble_eq_true rfl, Nat.le_of_ble_eq_true rfl⟩ (m_X12_ends (ch_ac ac_moves hc)) dX12_moveParty_12 (rfl : 12 + 3 = 15) (Nat.le_of_ble_eq_true rfl) rfl rfl rfl ⟨Nat.le_of_ble_eq_true rfl, Nat.le_of_ble_eq_true rfl⟩ ?_
  refine k_iret rfl rfl dX12_moveParty_15 (Nat.le_of_ble_eq_true rfl) (Nat.le_of_ble_eq_true rfl) ?_
  exact kRt_of rfl rfl
def f_X12_summon (x : kY) (a1 : Int32) (a2 : Int32) : Int32 := if (f_X12_ends (g_X12_summons (g_X12_begins x ) a1 a2) (f_X12_summons (g_X12_begins x ) a1 a2)) = 1 then 1 else 0
def g_X12_summon (x : kY) (a1 : Int32) (a2 : Int32) : kY := if (f_X12_ends (g_X12_summons (g_X12_begins x ) a1 a2) (f_X12_summons (g_X12_begins x ) a1 a2)) = 1 then (g_X12_ends (g_X12_summons (g_X12_begins x ) a1 a2) (f_X12_summons (g_X12_begins x ) a1 a2)) else (g_X12_ends (g_X12_summons (g_X12_begins x ) a1 a2) (f_X12_summons (g_X12_begins x ) a1 a2))
set_option maxRecDepth 100000 in
set_option maxHeartbeats 4000000 in
theorem m_X12_summon {x : kY} {a9 : kH} {z9 : kE × kE} {a1 : Int32} {a2 : Int32} (hc : ∃ c, c ≤ 8 ∧ x.1 1 = nI c) (hv : kMv (x.2 0)) (hl : kRm1 (x.2 0)) : kMet kX12_summon false 0 0 [.ref 116, .int a1, .int a2] (kTp a9 (kHr x z9)) 130 (kRt (some (.int (f_X12_summon x a1 a2))) (kTp a9 (kHr (g_X12_summon x a1 a2) z9)) 130) := by
  refine kMet.in (by decide) rfl rfl _ rfl ?_
  refine k_aload_n (i := 0) dX12_summon_0 (rfl : 0 + 1 = 1) rfl rfl ?_
  refine k_callVv0 cv_X12_96 ⟨Nat.le_of_ble_eq_true rfl, Nat.le_of_ble_eq_true rfl⟩ (m_X12_begins) dX12_summon_1 (rfl : 1 + 3 = 4) (Nat.le_of_ble_eq_true rfl) rfl rfl rfl ⟨Nat.le_of_ble_eq_true rfl, Nat.le_of_ble_eq_true rfl⟩ ?_
  refine k_aload_n (i := 0) dX12_summon_4 (rfl : 4 + 1 = 5) rfl rfl ?_
  refine k_aload_n (i := 0) dX12_summon_5 (rfl : 5 + 1 = 6) rfl rfl ?_
  refine k_iload_n (i := 1) dX12_summon_6 (rfl : 6 + 1 = 7) rfl rfl ?_
  refine k_iload_n (i := 2) dX12_summon_7 (rfl : 7 + 1 = 8) rfl rfl ?_
  refine k_callVd2 cv_X12_178 ⟨Nat.le_of_ble_eq_true rfl, Nat.le_of_ble_eq_true rfl⟩ (m_X12_summons hv hl) dX12_summon_8 (rfl : 8 + 3 = 11) (Nat.le_of_ble_eq_true rfl) rfl rfl rfl ⟨Nat.le_of_ble_eq_true rfl, Nat.le_of_ble_eq_true rfl⟩ ?_
  refine k_callVd1 cv_X12_103 ⟨Nat.le_of_ble_eq_true rfl, Nat.le_of_ble_eq_true rfl⟩ (m_X12_ends (ch_ac ac_summons hc)) dX12_summon_11 (rfl : 11 + 3 = 14) (Nat.le_of_ble_eq_true rfl) rfl rfl rfl ⟨Nat.le_of_ble_eq_true rfl, Nat.le_of_ble_eq_true rfl⟩ ?_
  refine k_iconst (v := 1) dX12_summon_14 (rfl : 14 + 1 = 15) (by decide) ?_
  refine k_icmp_ne (tgt := 22) dX12_summon_15 (rfl : 15 + 3 = 18) (by decide) (fun b15 => ?_) (fun b15 => ?_)
  · refine k_iconst (v := 0) dX12_summon_22 (rfl : 22 + 1 = 23) (by decide) ?_
    refine k_iret rfl rfl dX12_summon_23 (Nat.le_of_ble_eq_true rfl) (Nat.le_of_ble_eq_true rfl) ?_
    exact kRt_of (congrArg (fun z => some (Value.int z)) (Eq.symm (if_neg (show ¬ ((f_X12_ends (g_X12_summons (g_X12_begins x ) a1 a2) (f_X12_summons (g_X12_begins x ) a1 a2)) = 1) from b15)))) (congrArg (fun z => kTp a9 (kHr z z9)) (Eq.symm (if_neg (show ¬ ((f_X12_ends (g_X12_summons (g_X12_begins x ) a1 a2) (f_X12_summons (g_X12_begins x ) a1 a2)) = 1) from b15))))
  · refine k_iconst (v := 1) dX12_summon_18 (rfl : 18 + 1 = 19) (by decide) ?_
    refine k_goto (tgt := 23) dX12_summon_19 (by decide) ?_
    refine k_iret rfl rfl dX12_summon_23 (Nat.le_of_ble_eq_true rfl) (Nat.le_of_ble_eq_true rfl) ?_
    exact kRt_of (congrArg (fun z => some (Value.int z)) (Eq.symm (if_pos (show (f_X12_ends (g_X12_summons (g_X12_begins x ) a1 a2) (f_X12_summons (g_X12_begins x ) a1 a2)) = 1 from b15)))) (congrArg (fun z => kTp a9 (kHr z z9)) (Eq.symm (if_pos (show (f_X12_ends (g_X12_summons (g_X12_begins x ) a1 a2) (f_X12_summons (g_X12_begins x ) a1 a2)) = 1 from b15))))
def f_X12_buyBoomerangs (x : kY) (a1 : Int32) : Int32 := (f_X12_ends (g_X12_buys (g_X12_begins x ) a1) (f_X12_buys (g_X12_begins x ) a1))
def g_X12_buyBoomerangs (x : kY) (a1 : Int32) : kY := (g_X12_ends (g_X12_buys (g_X12_begins x ) a1) (f_X12_buys (g_X12_begins x ) a1))
set_option maxRecDepth 100000 in
set_option maxHeartbeats 4000000 in
theorem m_X12_buyBoomerangs {x : kY} {a9 : kH} {z9 : kE × kE} {a1 : Int32} (hc : ∃ c, c ≤ 8 ∧ x.1 1 = nI c) : kMet kX12_buyBoomerangs false 0 0 [.ref 116, .int a1] (kTp a9 (kHr x z9)) 130 (kRt (some (.int (f_X12_buyBoomerangs x a1))) (kTp a9 (kHr (g_X12_buyBoomerangs x a1) z9)) 130) := by
  refine kMet.in (by decide) rfl rfl _ rfl ?_
  refine k_aload_n (i := 0) dX12_buyBoomerangs_0 (rfl : 0 + 1 = 1) rfl rfl ?_
  refine k_callVv0 cv_X12_96 ⟨Nat.le_of_ble_eq_true rfl, Nat.le_of_ble_eq_true rfl⟩ (m_X12_begins) dX12_buyBoomerangs_1 (rfl : 1 + 3 = 4) (Nat.le_of_ble_eq_true rfl) rfl rfl rfl ⟨Nat.le_of_ble_eq_true rfl, Nat.le_of_ble_eq_true rfl⟩ ?_
  refine k_aload_n (i := 0) dX12_buyBoomerangs_4 (rfl : 4 + 1 = 5) rfl rfl ?_
  refine k_aload_n (i := 0) dX12_buyBoomerangs_5 (rfl : 5 + 1 = 6) rfl rfl ?_
  refine k_iload_n (i := 1) dX12_buyBoomerangs_6 (rfl : 6 + 1 = 7) rfl rfl ?_
  refine k_callVd1 cv_X12_181 ⟨Nat.le_of_ble_eq_true rfl, Nat.le_of_ble_eq_true rfl⟩ (m_X12_buys) dX12_buyBoomerangs_7 (rfl : 7 + 3 = 10) (Nat.le_of_ble_eq_true rfl) rfl rfl rfl ⟨Nat.le_of_ble_eq_true rfl, Nat.le_of_ble_eq_true rfl⟩ ?_
  refine k_callVd1 cv_X12_103 ⟨Nat.le_of_ble_eq_true rfl, Nat.le_of_ble_eq_true rfl⟩ (m_X12_ends (ch_ac ac_buys hc)) dX12_buyBoomerangs_10 (rfl : 10 + 3 = 13) (Nat.le_of_ble_eq_true rfl) rfl rfl rfl ⟨Nat.le_of_ble_eq_true rfl, Nat.le_of_ble_eq_true rfl⟩ ?_
  refine k_iret rfl rfl dX12_buyBoomerangs_13 (Nat.le_of_ble_eq_true rfl) (Nat.le_of_ble_eq_true rfl) ?_
  exact kRt_of rfl rfl
def f_X12_setSitting (x : kY) (a1 : Int32) (a2 : Int32) : Int32 := if (f_X12_ends (g_X12_seats (g_X12_begins x ) a1 a2) (f_X12_seats (g_X12_begins x ) a1 a2)) = 1 then 1 else 0
def g_X12_setSitting (x : kY) (a1 : Int32) (a2 : Int32) : kY := if (f_X12_ends (g_X12_seats (g_X12_begins x ) a1 a2) (f_X12_seats (g_X12_begins x ) a1 a2)) = 1 then (g_X12_ends (g_X12_seats (g_X12_begins x ) a1 a2) (f_X12_seats (g_X12_begins x ) a1 a2)) else (g_X12_ends (g_X12_seats (g_X12_begins x ) a1 a2) (f_X12_seats (g_X12_begins x ) a1 a2))
set_option maxRecDepth 100000 in
set_option maxHeartbeats 4000000 in
theorem m_X12_setSitting {x : kY} {a9 : kH} {z9 : kE × kE} {a1 : Int32} {a2 : Int32} (hc : ∃ c, c ≤ 8 ∧ x.1 1 = nI c) : kMet kX12_setSitting false 0 0 [.ref 116, .int a1, .int a2] (kTp a9 (kHr x z9)) 130 (kRt (some (.int (f_X12_setSitting x a1 a2))) (kTp a9 (kHr (g_X12_setSitting x a1 a2) z9)) 130) := by
  refine kMet.in (by decide) rfl rfl _ rfl ?_
  refine k_aload_n (i := 0) dX12_setSitting_0 (rfl : 0 + 1 = 1) rfl rfl ?_
  refine k_callVv0 cv_X12_96 ⟨Nat.le_of_ble_eq_true rfl, Nat.le_of_ble_eq_true rfl⟩ (m_X12_begins) dX12_setSitting_1 (rfl : 1 + 3 = 4) (Nat.le_of_ble_eq_true rfl) rfl rfl rfl ⟨Nat.le_of_ble_eq_true rfl, Nat.le_of_ble_eq_true rfl⟩ ?_
  refine k_aload_n (i := 0) dX12_setSitting_4 (rfl : 4 + 1 = 5) rfl rfl ?_
  refine k_aload_n (i := 0) dX12_setSitting_5 (rfl : 5 + 1 = 6) rfl rfl ?_
  refine k_iload_n (i := 1) dX12_setSitting_6 (rfl : 6 + 1 = 7) rfl rfl ?_
  refine k_iload_n (i := 2) dX12_setSitting_7 (rfl : 7 + 1 = 8) rfl rfl ?_
  refine k_callVd2 cv_X12_187 ⟨Nat.le_of_ble_eq_true rfl, Nat.le_of_ble_eq_true rfl⟩ (m_X12_seats) dX12_setSitting_8 (rfl : 8 + 3 = 11) (Nat.le_of_ble_eq_true rfl) rfl rfl rfl ⟨Nat.le_of_ble_eq_true rfl, Nat.le_of_ble_eq_true rfl⟩ ?_
  refine k_callVd1 cv_X12_103 ⟨Nat.le_of_ble_eq_true rfl, Nat.le_of_ble_eq_true rfl⟩ (m_X12_ends (ch_ac ac_seats hc)) dX12_setSitting_11 (rfl : 11 + 3 = 14) (Nat.le_of_ble_eq_true rfl) rfl rfl rfl ⟨Nat.le_of_ble_eq_true rfl, Nat.le_of_ble_eq_true rfl⟩ ?_
  refine k_iconst (v := 1) dX12_setSitting_14 (rfl : 14 + 1 = 15) (by decide) ?_
  refine k_icmp_ne (tgt := 22) dX12_setSitting_15 (rfl : 15 + 3 = 18) (by decide) (fun b15 => ?_) (fun b15 => ?_)
  · refine k_iconst (v := 0) dX12_setSitting_22 (rfl : 22 + 1 = 23) (by decide) ?_
    refine k_iret rfl rfl dX12_setSitting_23 (Nat.le_of_ble_eq_true rfl) (Nat.le_of_ble_eq_true rfl) ?_
    exact kRt_of (congrArg (fun z => some (Value.int z)) (Eq.symm (if_neg (show ¬ ((f_X12_ends (g_X12_seats (g_X12_begins x ) a1 a2) (f_X12_seats (g_X12_begins x ) a1 a2)) = 1) from b15)))) (congrArg (fun z => kTp a9 (kHr z z9)) (Eq.symm (if_neg (show ¬ ((f_X12_ends (g_X12_seats (g_X12_begins x ) a1 a2) (f_X12_seats (g_X12_begins x ) a1 a2)) = 1) from b15))))
  · refine k_iconst (v := 1) dX12_setSitting_18 (rfl : 18 + 1 = 19) (by decide) ?_
    refine k_goto (tgt := 23) dX12_setSitting_19 (by decide) ?_
    refine k_iret rfl rfl dX12_setSitting_23 (Nat.le_of_ble_eq_true rfl) (Nat.le_of_ble_eq_true rfl) ?_
    exact kRt_of (congrArg (fun z => some (Value.int z)) (Eq.symm (if_pos (show (f_X12_ends (g_X12_seats (g_X12_begins x ) a1 a2) (f_X12_seats (g_X12_begins x ) a1 a2)) = 1 from b15)))) (congrArg (fun z => kTp a9 (kHr z z9)) (Eq.symm (if_pos (show (f_X12_ends (g_X12_seats (g_X12_begins x ) a1 a2) (f_X12_seats (g_X12_begins x ) a1 a2)) = 1 from b15))))
def f_X12_hear (x : kY) (a1 : Int32) : Int32 := (f_X12_ends (g_X12_hears (g_X12_begins x ) a1) (f_X12_hears (g_X12_begins x ) a1))
def g_X12_hear (x : kY) (a1 : Int32) : kY := (g_X12_ends (g_X12_hears (g_X12_begins x ) a1) (f_X12_hears (g_X12_begins x ) a1))
set_option maxRecDepth 100000 in
set_option maxHeartbeats 4000000 in
theorem m_X12_hear {x : kY} {a9 : kH} {z9 : kE × kE} {a1 : Int32} (hc : ∃ c, c ≤ 8 ∧ x.1 1 = nI c) (hv : kMv (x.2 0)) : kMet kX12_hear false 0 0 [.ref 116, .int a1] (kTp a9 (kHr x z9)) 130 (kRt (some (.int (f_X12_hear x a1))) (kTp a9 (kHr (g_X12_hear x a1) z9)) 130) := by
  refine kMet.in (by decide) rfl rfl _ rfl ?_
  refine k_aload_n (i := 0) dX12_hear_0 (rfl : 0 + 1 = 1) rfl rfl ?_
  refine k_callVv0 cv_X12_96 ⟨Nat.le_of_ble_eq_true rfl, Nat.le_of_ble_eq_true rfl⟩ (m_X12_begins) dX12_hear_1 (rfl : 1 + 3 = 4) (Nat.le_of_ble_eq_true rfl) rfl rfl rfl ⟨Nat.le_of_ble_eq_true rfl, Nat.le_of_ble_eq_true rfl⟩ ?_
  refine k_aload_n (i := 0) dX12_hear_4 (rfl : 4 + 1 = 5) rfl rfl ?_
  refine k_aload_n (i := 0) dX12_hear_5 (rfl : 5 + 1 = 6) rfl rfl ?_
  refine k_iload_n (i := 1) dX12_hear_6 (rfl : 6 + 1 = 7) rfl rfl ?_
  refine k_callVd1 cv_X12_207 ⟨Nat.le_of_ble_eq_true rfl, Nat.le_of_ble_eq_true rfl⟩ (m_X12_hears hv) dX12_hear_7 (rfl : 7 + 3 = 10) (Nat.le_of_ble_eq_true rfl) rfl rfl rfl ⟨Nat.le_of_ble_eq_true rfl, Nat.le_of_ble_eq_true rfl⟩ ?_
  refine k_callVd1 cv_X12_103 ⟨Nat.le_of_ble_eq_true rfl, Nat.le_of_ble_eq_true rfl⟩ (m_X12_ends (ch_ac ac_hears hc)) dX12_hear_10 (rfl : 10 + 3 = 13) (Nat.le_of_ble_eq_true rfl) rfl rfl rfl ⟨Nat.le_of_ble_eq_true rfl, Nat.le_of_ble_eq_true rfl⟩ ?_
  refine k_iret rfl rfl dX12_hear_13 (Nat.le_of_ble_eq_true rfl) (Nat.le_of_ble_eq_true rfl) ?_
  exact kRt_of rfl rfl
def f_X12_pass (x : kY) (a1 : Int32) : Int32 := (f_X12_ends (g_X12_passes (g_X12_begins x ) a1) (f_X12_passes (g_X12_begins x ) a1))
def g_X12_pass (x : kY) (a1 : Int32) : kY := (g_X12_ends (g_X12_passes (g_X12_begins x ) a1) (f_X12_passes (g_X12_begins x ) a1))
set_option maxRecDepth 100000 in
set_option maxHeartbeats 4000000 in
theorem m_X12_pass {x : kY} {a9 : kH} {z9 : kE × kE} {a1 : Int32} (hc : ∃ c, c ≤ 8 ∧ x.1 1 = nI c) (hv : kMv (x.2 0)) : kMet kX12_pass false 0 0 [.ref 116, .int a1] (kTp a9 (kHr x z9)) 130 (kRt (some (.int (f_X12_pass x a1))) (kTp a9 (kHr (g_X12_pass x a1) z9)) 130) := by
  refine kMet.in (by decide) rfl rfl _ rfl ?_
  refine k_aload_n (i := 0) dX12_pass_0 (rfl : 0 + 1 = 1) rfl rfl ?_
  refine k_callVv0 cv_X12_96 ⟨Nat.le_of_ble_eq_true rfl, Nat.le_of_ble_eq_true rfl⟩ (m_X12_begins) dX12_pass_1 (rfl : 1 + 3 = 4) (Nat.le_of_ble_eq_true rfl) rfl rfl rfl ⟨Nat.le_of_ble_eq_true rfl, Nat.le_of_ble_eq_true rfl⟩ ?_
  refine k_aload_n (i := 0) dX12_pass_4 (rfl : 4 + 1 = 5) rfl rfl ?_
  refine k_aload_n (i := 0) dX12_pass_5 (rfl : 5 + 1 = 6) rfl rfl ?_
  refine k_iload_n (i := 1) dX12_pass_6 (rfl : 6 + 1 = 7) rfl rfl ?_
  refine k_callVd1 cv_X12_213 ⟨Nat.le_of_ble_eq_true rfl, Nat.le_of_ble_eq_true rfl⟩ (m_X12_passes hv) dX12_pass_7 (rfl : 7 + 3 = 10) (Nat.le_of_ble_eq_true rfl) rfl rfl rfl ⟨Nat.le_of_ble_eq_true rfl, Nat.le_of_ble_eq_true rfl⟩ ?_
  refine k_callVd1 cv_X12_103 ⟨Nat.le_of_ble_eq_true rfl, Nat.le_of_ble_eq_true rfl⟩ (m_X12_ends (ch_ac ac_passes hc)) dX12_pass_10 (rfl : 10 + 3 = 13) (Nat.le_of_ble_eq_true rfl) rfl rfl rfl ⟨Nat.le_of_ble_eq_true rfl, Nat.le_of_ble_eq_true rfl⟩ ?_
  refine k_iret rfl rfl dX12_pass_13 (Nat.le_of_ble_eq_true rfl) (Nat.le_of_ble_eq_true rfl) ?_
  exact kRt_of rfl rfl
def f_X12_treeBits (x : kY)  : Int64 := (f_X12_bits (x.2 0) 0)
def g_X12_treeBits (x : kY)  : kY := (yS x 0 0)
set_option maxRecDepth 100000 in
set_option maxHeartbeats 4000000 in
theorem m_X12_treeBits {x : kY} {a9 : kH} {z9 : kE × kE} : kMet kX12_treeBits false 0 0 [.ref 116] (kTp a9 (kHr x z9)) 130 (kRt (some (.long (f_X12_treeBits x ))) (kTp a9 (kHr (g_X12_treeBits x ) z9)) 130) := by
  refine kMet.in (by decide) rfl rfl _ rfl ?_
  refine k_aload_n (i := 0) dX12_treeBits_0 (rfl : 0 + 1 = 1) rfl rfl ?_
  refine k_iconst (v := 0) dX12_treeBits_1 (rfl : 1 + 1 = 2) (by decide) ?_
  refine k_put 12 0 fp_X12_50 dX12_treeBits_2 (rfl : 2 + 3 = 5) (Nat.le_of_ble_eq_true rfl) rfl (Nat.le_of_ble_eq_true rfl) rfl rfl ?_
  refine kf_Y0 (v := 0) rfl ?_
  refine k_aload_n (i := 0) dX12_treeBits_5 (rfl : 5 + 1 = 6) rfl rfl ?_
  refine k_iconst (v := 0) dX12_treeBits_6 (rfl : 6 + 1 = 7) (by decide) ?_
  refine k_callVd1 cv_X12_113 ⟨Nat.le_of_ble_eq_true rfl, Nat.le_of_ble_eq_true rfl⟩ (m_X12_bits) dX12_treeBits_7 (rfl : 7 + 3 = 10) (Nat.le_of_ble_eq_true rfl) rfl rfl rfl ⟨Nat.le_of_ble_eq_true rfl, Nat.le_of_ble_eq_true rfl⟩ ?_
  refine k_lret rfl dX12_treeBits_10 (Nat.le_of_ble_eq_true rfl) (Nat.le_of_ble_eq_true rfl) ?_
  exact kRt_of rfl rfl
def f_X12_turnedTrees (x : kY)  : Int64 := (f_X12_bits (x.2 0) 1)
def g_X12_turnedTrees (x : kY)  : kY := (yS x 0 0)
set_option maxRecDepth 100000 in
set_option maxHeartbeats 4000000 in
theorem m_X12_turnedTrees {x : kY} {a9 : kH} {z9 : kE × kE} : kMet kX12_turnedTrees false 0 0 [.ref 116] (kTp a9 (kHr x z9)) 130 (kRt (some (.long (f_X12_turnedTrees x ))) (kTp a9 (kHr (g_X12_turnedTrees x ) z9)) 130) := by
  refine kMet.in (by decide) rfl rfl _ rfl ?_
  refine k_aload_n (i := 0) dX12_turnedTrees_0 (rfl : 0 + 1 = 1) rfl rfl ?_
  refine k_iconst (v := 0) dX12_turnedTrees_1 (rfl : 1 + 1 = 2) (by decide) ?_
  refine k_put 12 0 fp_X12_50 dX12_turnedTrees_2 (rfl : 2 + 3 = 5) (Nat.le_of_ble_eq_true rfl) rfl (Nat.le_of_ble_eq_true rfl) rfl rfl ?_
  refine kf_Y0 (v := 0) rfl ?_
  refine k_aload_n (i := 0) dX12_turnedTrees_5 (rfl : 5 + 1 = 6) rfl rfl ?_
  refine k_iconst (v := 1) dX12_turnedTrees_6 (rfl : 6 + 1 = 7) (by decide) ?_
  refine k_callVd1 cv_X12_113 ⟨Nat.le_of_ble_eq_true rfl, Nat.le_of_ble_eq_true rfl⟩ (m_X12_bits) dX12_turnedTrees_7 (rfl : 7 + 3 = 10) (Nat.le_of_ble_eq_true rfl) rfl rfl rfl ⟨Nat.le_of_ble_eq_true rfl, Nat.le_of_ble_eq_true rfl⟩ ?_
  refine k_lret rfl dX12_turnedTrees_10 (Nat.le_of_ble_eq_true rfl) (Nat.le_of_ble_eq_true rfl) ?_
  exact kRt_of rfl rfl
def f_X12_turnedTreesByCells (x : kY)  : Int64 := (f_X12_turnedTrees x )
def g_X12_turnedTreesByCells (x : kY)  : kY := (g_X12_turnedTrees x )
set_option maxRecDepth 100000 in
set_option maxHeartbeats 4000000 in
theorem m_X12_turnedTreesByCells {x : kY} {a9 : kH} {z9 : kE × kE} : kMet kX12_turnedTreesByCells false 0 0 [.ref 116] (kTp a9 (kHr x z9)) 130 (kRt (some (.long (f_X12_turnedTreesByCells x ))) (kTp a9 (kHr (g_X12_turnedTreesByCells x ) z9)) 130) := by
  refine kMet.in (by decide) rfl rfl _ rfl ?_
  refine k_aload_n (i := 0) dX12_turnedTreesByCells_0 (rfl : 0 + 1 = 1) rfl rfl ?_
  refine k_callVd0 cv_X12_117 ⟨Nat.le_of_ble_eq_true rfl, Nat.le_of_ble_eq_true rfl⟩ (m_X12_turnedTrees) dX12_turnedTreesByCells_1 (rfl : 1 + 3 = 4) (Nat.le_of_ble_eq_true rfl) rfl rfl rfl ⟨Nat.le_of_ble_eq_true rfl, Nat.le_of_ble_eq_true rfl⟩ ?_
  refine k_lret rfl dX12_turnedTreesByCells_4 (Nat.le_of_ble_eq_true rfl) (Nat.le_of_ble_eq_true rfl) ?_
  exact kRt_of rfl rfl
def f_X12_tells (x : kY) (a1 : Int32) : Int32 := ((x.2 0) (Int32.toNatClampNeg a1))
def g_X12_tells (x : kY) (a1 : Int32) : kY := (yS x 0 0)
set_option maxRecDepth 100000 in
set_option maxHeartbeats 4000000 in
theorem m_X12_tells {x : kY} {a9 : kH} {z9 : kE × kE} {a1 : Int32} (hi : vp_in a1 116) : kMet kX12_tells false 0 0 [.ref 116, .int a1] (kTp a9 (kHr x z9)) 130 (kRt (some (.int (f_X12_tells x a1))) (kTp a9 (kHr (g_X12_tells x a1) z9)) 130) := by
  refine kMet.in (by decide) rfl rfl _ rfl ?_
  refine k_aload_n (i := 0) dX12_tells_0 (rfl : 0 + 1 = 1) rfl rfl ?_
  refine k_iconst (v := 0) dX12_tells_1 (rfl : 1 + 1 = 2) (by decide) ?_
  refine k_put 12 0 fp_X12_50 dX12_tells_2 (rfl : 2 + 3 = 5) (Nat.le_of_ble_eq_true rfl) rfl (Nat.le_of_ble_eq_true rfl) rfl rfl ?_
  refine kf_Y0 (v := 0) rfl ?_
  refine k_aload_n (i := 0) dX12_tells_5 (rfl : 5 + 1 = 6) rfl rfl ?_
  refine k_get 12 7 fg_X12_16 dX12_tells_6 (rfl : 6 + 3 = 9) (Nat.le_of_ble_eq_true rfl) rfl rfl ?_
  refine k_iload_n (i := 1) dX12_tells_9 (rfl : 9 + 1 = 10) rfl rfl ?_
  refine k_iald dX12_tells_10 (rfl : 10 + 1 = 11) (Nat.le_of_ble_eq_true rfl) rfl hi ?_
  refine k_iret rfl rfl dX12_tells_11 (Nat.le_of_ble_eq_true rfl) (Nat.le_of_ble_eq_true rfl) ?_
  exact kRt_of rfl rfl
def f_X12_bench (x : kY)  : Int32 := (f_X12_tells x 3)
def g_X12_bench (x : kY)  : kY := (g_X12_tells x 3)
set_option maxRecDepth 100000 in
set_option maxHeartbeats 4000000 in
theorem m_X12_bench {x : kY} {a9 : kH} {z9 : kE × kE} : kMet kX12_bench false 0 0 [.ref 116] (kTp a9 (kHr x z9)) 130 (kRt (some (.int (f_X12_bench x ))) (kTp a9 (kHr (g_X12_bench x ) z9)) 130) := by
  refine kMet.in (by decide) rfl rfl _ rfl ?_
  refine k_aload_n (i := 0) dX12_bench_0 (rfl : 0 + 1 = 1) rfl rfl ?_
  refine k_iconst (v := 3) dX12_bench_1 (rfl : 1 + 1 = 2) (by decide) ?_
  refine k_callVd1 cv_X12_131 ⟨Nat.le_of_ble_eq_true rfl, Nat.le_of_ble_eq_true rfl⟩ (m_X12_tells (vp_in_iff.mpr (by decide))) dX12_bench_2 (rfl : 2 + 3 = 5) (Nat.le_of_ble_eq_true rfl) rfl rfl rfl ⟨Nat.le_of_ble_eq_true rfl, Nat.le_of_ble_eq_true rfl⟩ ?_
  refine k_iret rfl rfl dX12_bench_5 (Nat.le_of_ble_eq_true rfl) (Nat.le_of_ble_eq_true rfl) ?_
  exact kRt_of rfl rfl
def f_X12_partyCount (x : kY)  : Int32 := (f_X12_tells x 6)
def g_X12_partyCount (x : kY)  : kY := (g_X12_tells x 6)
set_option maxRecDepth 100000 in
set_option maxHeartbeats 4000000 in
theorem m_X12_partyCount {x : kY} {a9 : kH} {z9 : kE × kE} : kMet kX12_partyCount false 0 0 [.ref 116] (kTp a9 (kHr x z9)) 130 (kRt (some (.int (f_X12_partyCount x ))) (kTp a9 (kHr (g_X12_partyCount x ) z9)) 130) := by
  refine kMet.in (by decide) rfl rfl _ rfl ?_
  refine k_aload_n (i := 0) dX12_partyCount_0 (rfl : 0 + 1 = 1) rfl rfl ?_
  refine k_bipush (v := 6) dX12_partyCount_1 (rfl : 1 + 2 = 3) (by decide) ?_
  refine k_callVd1 cv_X12_131 ⟨Nat.le_of_ble_eq_true rfl, Nat.le_of_ble_eq_true rfl⟩ (m_X12_tells (vp_in_iff.mpr (by decide))) dX12_partyCount_3 (rfl : 3 + 3 = 6) (Nat.le_of_ble_eq_true rfl) rfl rfl rfl ⟨Nat.le_of_ble_eq_true rfl, Nat.le_of_ble_eq_true rfl⟩ ?_
  refine k_iret rfl rfl dX12_partyCount_6 (Nat.le_of_ble_eq_true rfl) (Nat.le_of_ble_eq_true rfl) ?_
  exact kRt_of rfl rfl
def f_X12_boomerangs (x : kY)  : Int32 := (f_X12_tells x 2)
def g_X12_boomerangs (x : kY)  : kY := (g_X12_tells x 2)
set_option maxRecDepth 100000 in
set_option maxHeartbeats 4000000 in
theorem m_X12_boomerangs {x : kY} {a9 : kH} {z9 : kE × kE} : kMet kX12_boomerangs false 0 0 [.ref 116] (kTp a9 (kHr x z9)) 130 (kRt (some (.int (f_X12_boomerangs x ))) (kTp a9 (kHr (g_X12_boomerangs x ) z9)) 130) := by
  refine kMet.in (by decide) rfl rfl _ rfl ?_
  refine k_aload_n (i := 0) dX12_boomerangs_0 (rfl : 0 + 1 = 1) rfl rfl ?_
  refine k_iconst (v := 2) dX12_boomerangs_1 (rfl : 1 + 1 = 2) (by decide) ?_
  refine k_callVd1 cv_X12_131 ⟨Nat.le_of_ble_eq_true rfl, Nat.le_of_ble_eq_true rfl⟩ (m_X12_tells (vp_in_iff.mpr (by decide))) dX12_boomerangs_2 (rfl : 2 + 3 = 5) (Nat.le_of_ble_eq_true rfl) rfl rfl rfl ⟨Nat.le_of_ble_eq_true rfl, Nat.le_of_ble_eq_true rfl⟩ ?_
  refine k_iret rfl rfl dX12_boomerangs_5 (Nat.le_of_ble_eq_true rfl) (Nat.le_of_ble_eq_true rfl) ?_
  exact kRt_of rfl rfl
def f_X12_throwCount (x : kY)  : Int32 := (f_X12_tells x 9)
def g_X12_throwCount (x : kY)  : kY := (g_X12_tells x 9)
set_option maxRecDepth 100000 in
set_option maxHeartbeats 4000000 in
theorem m_X12_throwCount {x : kY} {a9 : kH} {z9 : kE × kE} : kMet kX12_throwCount false 0 0 [.ref 116] (kTp a9 (kHr x z9)) 130 (kRt (some (.int (f_X12_throwCount x ))) (kTp a9 (kHr (g_X12_throwCount x ) z9)) 130) := by
  refine kMet.in (by decide) rfl rfl _ rfl ?_
  refine k_aload_n (i := 0) dX12_throwCount_0 (rfl : 0 + 1 = 1) rfl rfl ?_
  refine k_bipush (v := 9) dX12_throwCount_1 (rfl : 1 + 2 = 3) (by decide) ?_
  refine k_callVd1 cv_X12_131 ⟨Nat.le_of_ble_eq_true rfl, Nat.le_of_ble_eq_true rfl⟩ (m_X12_tells (vp_in_iff.mpr (by decide))) dX12_throwCount_3 (rfl : 3 + 3 = 6) (Nat.le_of_ble_eq_true rfl) rfl rfl rfl ⟨Nat.le_of_ble_eq_true rfl, Nat.le_of_ble_eq_true rfl⟩ ?_
  refine k_iret rfl rfl dX12_throwCount_6 (Nat.le_of_ble_eq_true rfl) (Nat.le_of_ble_eq_true rfl) ?_
  exact kRt_of rfl rfl
def f_X12_sittingBits (x : kY)  : Int32 := (f_X12_tells x 8)
def g_X12_sittingBits (x : kY)  : kY := (g_X12_tells x 8)
set_option maxRecDepth 100000 in
set_option maxHeartbeats 4000000 in
theorem m_X12_sittingBits {x : kY} {a9 : kH} {z9 : kE × kE} : kMet kX12_sittingBits false 0 0 [.ref 116] (kTp a9 (kHr x z9)) 130 (kRt (some (.int (f_X12_sittingBits x ))) (kTp a9 (kHr (g_X12_sittingBits x ) z9)) 130) := by
  refine kMet.in (by decide) rfl rfl _ rfl ?_
  refine k_aload_n (i := 0) dX12_sittingBits_0 (rfl : 0 + 1 = 1) rfl rfl ?_
  refine k_bipush (v := 8) dX12_sittingBits_1 (rfl : 1 + 2 = 3) (by decide) ?_
  refine k_callVd1 cv_X12_131 ⟨Nat.le_of_ble_eq_true rfl, Nat.le_of_ble_eq_true rfl⟩ (m_X12_tells (vp_in_iff.mpr (by decide))) dX12_sittingBits_3 (rfl : 3 + 3 = 6) (Nat.le_of_ble_eq_true rfl) rfl rfl rfl ⟨Nat.le_of_ble_eq_true rfl, Nat.le_of_ble_eq_true rfl⟩ ?_
  refine k_iret rfl rfl dX12_sittingBits_6 (Nat.le_of_ble_eq_true rfl) (Nat.le_of_ble_eq_true rfl) ?_
  exact kRt_of rfl rfl
def f_X12_pleaCount (x : kY)  : Int32 := (f_X12_tells x 7)
def g_X12_pleaCount (x : kY)  : kY := (g_X12_tells x 7)
set_option maxRecDepth 100000 in
set_option maxHeartbeats 4000000 in
theorem m_X12_pleaCount {x : kY} {a9 : kH} {z9 : kE × kE} : kMet kX12_pleaCount false 0 0 [.ref 116] (kTp a9 (kHr x z9)) 130 (kRt (some (.int (f_X12_pleaCount x ))) (kTp a9 (kHr (g_X12_pleaCount x ) z9)) 130) := by
  refine kMet.in (by decide) rfl rfl _ rfl ?_
  refine k_aload_n (i := 0) dX12_pleaCount_0 (rfl : 0 + 1 = 1) rfl rfl ?_
  refine k_bipush (v := 7) dX12_pleaCount_1 (rfl : 1 + 2 = 3) (by decide) ?_
  refine k_callVd1 cv_X12_131 ⟨Nat.le_of_ble_eq_true rfl, Nat.le_of_ble_eq_true rfl⟩ (m_X12_tells (vp_in_iff.mpr (by decide))) dX12_pleaCount_3 (rfl : 3 + 3 = 6) (Nat.le_of_ble_eq_true rfl) rfl rfl rfl ⟨Nat.le_of_ble_eq_true rfl, Nat.le_of_ble_eq_true rfl⟩ ?_
  refine k_iret rfl rfl dX12_pleaCount_6 (Nat.le_of_ble_eq_true rfl) (Nat.le_of_ble_eq_true rfl) ?_
  exact kRt_of rfl rfl
def f_X12_hour (x : kY)  : Int32 := (f_X12_tells x 0)
def g_X12_hour (x : kY)  : kY := (g_X12_tells x 0)
set_option maxRecDepth 100000 in
set_option maxHeartbeats 4000000 in
theorem m_X12_hour {x : kY} {a9 : kH} {z9 : kE × kE} : kMet kX12_hour false 0 0 [.ref 116] (kTp a9 (kHr x z9)) 130 (kRt (some (.int (f_X12_hour x ))) (kTp a9 (kHr (g_X12_hour x ) z9)) 130) := by
  refine kMet.in (by decide) rfl rfl _ rfl ?_
  refine k_aload_n (i := 0) dX12_hour_0 (rfl : 0 + 1 = 1) rfl rfl ?_
  refine k_iconst (v := 0) dX12_hour_1 (rfl : 1 + 1 = 2) (by decide) ?_
  refine k_callVd1 cv_X12_131 ⟨Nat.le_of_ble_eq_true rfl, Nat.le_of_ble_eq_true rfl⟩ (m_X12_tells (vp_in_iff.mpr (by decide))) dX12_hour_2 (rfl : 2 + 3 = 5) (Nat.le_of_ble_eq_true rfl) rfl rfl rfl ⟨Nat.le_of_ble_eq_true rfl, Nat.le_of_ble_eq_true rfl⟩ ?_
  refine k_iret rfl rfl dX12_hour_5 (Nat.le_of_ble_eq_true rfl) (Nat.le_of_ble_eq_true rfl) ?_
  exact kRt_of rfl rfl
def f_X12_coins (x : kY)  : Int32 := (f_X12_tells x 1)
def g_X12_coins (x : kY)  : kY := (g_X12_tells x 1)
set_option maxRecDepth 100000 in
set_option maxHeartbeats 4000000 in
theorem m_X12_coins {x : kY} {a9 : kH} {z9 : kE × kE} : kMet kX12_coins false 0 0 [.ref 116] (kTp a9 (kHr x z9)) 130 (kRt (some (.int (f_X12_coins x ))) (kTp a9 (kHr (g_X12_coins x ) z9)) 130) := by
  refine kMet.in (by decide) rfl rfl _ rfl ?_
  refine k_aload_n (i := 0) dX12_coins_0 (rfl : 0 + 1 = 1) rfl rfl ?_
  refine k_iconst (v := 1) dX12_coins_1 (rfl : 1 + 1 = 2) (by decide) ?_
  refine k_callVd1 cv_X12_131 ⟨Nat.le_of_ble_eq_true rfl, Nat.le_of_ble_eq_true rfl⟩ (m_X12_tells (vp_in_iff.mpr (by decide))) dX12_coins_2 (rfl : 2 + 3 = 5) (Nat.le_of_ble_eq_true rfl) rfl rfl rfl ⟨Nat.le_of_ble_eq_true rfl, Nat.le_of_ble_eq_true rfl⟩ ?_
  refine k_iret rfl rfl dX12_coins_5 (Nat.le_of_ble_eq_true rfl) (Nat.le_of_ble_eq_true rfl) ?_
  exact kRt_of rfl rfl
def f_X12_coinsByAccounts (x : kY)  : Int32 := (f_X12_tells x 1)
def g_X12_coinsByAccounts (x : kY)  : kY := (g_X12_tells x 1)
set_option maxRecDepth 100000 in
set_option maxHeartbeats 4000000 in
theorem m_X12_coinsByAccounts {x : kY} {a9 : kH} {z9 : kE × kE} : kMet kX12_coinsByAccounts false 0 0 [.ref 116] (kTp a9 (kHr x z9)) 130 (kRt (some (.int (f_X12_coinsByAccounts x ))) (kTp a9 (kHr (g_X12_coinsByAccounts x ) z9)) 130) := by
  refine kMet.in (by decide) rfl rfl _ rfl ?_
  refine k_aload_n (i := 0) dX12_coinsByAccounts_0 (rfl : 0 + 1 = 1) rfl rfl ?_
  refine k_iconst (v := 1) dX12_coinsByAccounts_1 (rfl : 1 + 1 = 2) (by decide) ?_
  refine k_callVd1 cv_X12_131 ⟨Nat.le_of_ble_eq_true rfl, Nat.le_of_ble_eq_true rfl⟩ (m_X12_tells (vp_in_iff.mpr (by decide))) dX12_coinsByAccounts_2 (rfl : 2 + 3 = 5) (Nat.le_of_ble_eq_true rfl) rfl rfl rfl ⟨Nat.le_of_ble_eq_true rfl, Nat.le_of_ble_eq_true rfl⟩ ?_
  refine k_iret rfl rfl dX12_coinsByAccounts_5 (Nat.le_of_ble_eq_true rfl) (Nat.le_of_ble_eq_true rfl) ?_
  exact kRt_of rfl rfl
def f_X12_cellOf (x : kY) (a1 : Int32) : Int32 := if (f_X12_isParty (x.2 0) a1) = 0 then 0 else (f_X12_cellOfParty (x.2 0) a1)
def g_X12_cellOf (x : kY) (a1 : Int32) : kY := if (f_X12_isParty (x.2 0) a1) = 0 then (yS x 0 1) else (yS x 0 0)
set_option maxRecDepth 100000 in
set_option maxHeartbeats 4000000 in
theorem m_X12_cellOf {x : kY} {a9 : kH} {z9 : kE × kE} {a1 : Int32} (hv : kMv (x.2 0)) : kMet kX12_cellOf false 0 0 [.ref 116, .int a1] (kTp a9 (kHr x z9)) 130 (kRt (some (.int (f_X12_cellOf x a1))) (kTp a9 (kHr (g_X12_cellOf x a1) z9)) 130) := by
  refine kMet.in (by decide) rfl rfl _ rfl ?_
  refine k_aload_n (i := 0) dX12_cellOf_0 (rfl : 0 + 1 = 1) rfl rfl ?_
  refine k_aload_n (i := 0) dX12_cellOf_1 (rfl : 1 + 1 = 2) rfl rfl ?_
  refine k_iload_n (i := 1) dX12_cellOf_2 (rfl : 2 + 1 = 3) rfl rfl ?_
  refine k_callVd1 cv_X12_140 ⟨Nat.le_of_ble_eq_true rfl, Nat.le_of_ble_eq_true rfl⟩ (m_X12_isParty) dX12_cellOf_3 (rfl : 3 + 3 = 6) (Nat.le_of_ble_eq_true rfl) rfl rfl rfl ⟨Nat.le_of_ble_eq_true rfl, Nat.le_of_ble_eq_true rfl⟩ ?_
  refine k_if_eq (tgt := 13) dX12_cellOf_6 (rfl : 6 + 3 = 9) (by decide) (fun b6 => ?_) (fun b6 => ?_)
  · refine k_iconst (v := 1) dX12_cellOf_13 (rfl : 13 + 1 = 14) (by decide) ?_
    refine k_put 12 0 fp_X12_50 dX12_cellOf_14 (rfl : 14 + 3 = 17) (Nat.le_of_ble_eq_true rfl) rfl (Nat.le_of_ble_eq_true rfl) rfl rfl ?_
    refine kf_Y0 (v := 1) rfl ?_
    refine k_aload_n (i := 0) dX12_cellOf_17 (rfl : 17 + 1 = 18) rfl rfl ?_
    refine k_get 12 0 fg_X12_50 dX12_cellOf_18 (rfl : 18 + 3 = 21) (Nat.le_of_ble_eq_true rfl) rfl rfl ?_
    refine k_if_ne (tgt := 32) dX12_cellOf_21 (rfl : 21 + 3 = 24) (by decide) (fun b21 => ?_) (fun b21 => by exact absurd b21 (by first | decide | (show ¬ (1 : Int32) = 0; decide)))
    refine k_iconst (v := 0) dX12_cellOf_32 (rfl : 32 + 1 = 33) (by decide) ?_
    refine k_iret rfl rfl dX12_cellOf_33 (Nat.le_of_ble_eq_true rfl) (Nat.le_of_ble_eq_true rfl) ?_
    exact kRt_of (congrArg (fun z => some (Value.int z)) (Eq.symm (if_pos (show (f_X12_isParty (x.2 0) a1) = 0 from b6)))) (congrArg (fun z => kTp a9 (kHr z z9)) (Eq.symm (if_pos (show (f_X12_isParty (x.2 0) a1) = 0 from b6))))
  · refine k_iconst (v := 0) dX12_cellOf_9 (rfl : 9 + 1 = 10) (by decide) ?_
    refine k_goto (tgt := 14) dX12_cellOf_10 (by decide) ?_
    refine k_put 12 0 fp_X12_50 dX12_cellOf_14 (rfl : 14 + 3 = 17) (Nat.le_of_ble_eq_true rfl) rfl (Nat.le_of_ble_eq_true rfl) rfl rfl ?_
    refine kf_Y0 (v := 0) rfl ?_
    refine k_aload_n (i := 0) dX12_cellOf_17 (rfl : 17 + 1 = 18) rfl rfl ?_
    refine k_get 12 0 fg_X12_50 dX12_cellOf_18 (rfl : 18 + 3 = 21) (Nat.le_of_ble_eq_true rfl) rfl rfl ?_
    refine k_if_ne (tgt := 32) dX12_cellOf_21 (rfl : 21 + 3 = 24) (by decide) (fun b21 => by exact absurd (by first | decide | (show (0 : Int32) = 0; decide)) b21) (fun b21 => ?_)
    refine k_aload_n (i := 0) dX12_cellOf_24 (rfl : 24 + 1 = 25) rfl rfl ?_
    refine k_iload_n (i := 1) dX12_cellOf_25 (rfl : 25 + 1 = 26) rfl rfl ?_
    refine k_callVd1 cv_X12_74 ⟨Nat.le_of_ble_eq_true rfl, Nat.le_of_ble_eq_true rfl⟩ (m_X12_cellOfParty (ip_8 hv b6)) dX12_cellOf_26 (rfl : 26 + 3 = 29) (Nat.le_of_ble_eq_true rfl) rfl rfl rfl ⟨Nat.le_of_ble_eq_true rfl, Nat.le_of_ble_eq_true rfl⟩ ?_
    refine k_goto (tgt := 33) dX12_cellOf_29 (by decide) ?_
    refine k_iret rfl rfl dX12_cellOf_33 (Nat.le_of_ble_eq_true rfl) (Nat.le_of_ble_eq_true rfl) ?_
    exact kRt_of (congrArg (fun z => some (Value.int z)) (Eq.symm (if_neg (show ¬ ((f_X12_isParty (x.2 0) a1) = 0) from b6)))) (congrArg (fun z => kTp a9 (kHr z z9)) (Eq.symm (if_neg (show ¬ ((f_X12_isParty (x.2 0) a1) = 0) from b6))))
theorem p8_sv2 {a : Int32} (h : kP8 a) : vp_in (76 + 2 * a + 1) 116 := p8_sv h
def f_X12_servedCount (x : kY) (a1 : Int32) : Int32 := if (f_X12_isParty (x.2 0) a1) = 0 then 0 else ((x.2 0) (Int32.toNatClampNeg ((76 + (2 * a1)) + 1)))
def g_X12_servedCount (x : kY) (a1 : Int32) : kY := if (f_X12_isParty (x.2 0) a1) = 0 then (yS x 0 1) else (yS x 0 0)
set_option maxRecDepth 100000 in
set_option maxHeartbeats 4000000 in
theorem m_X12_servedCount {x : kY} {a9 : kH} {z9 : kE × kE} {a1 : Int32} (hv : kMv (x.2 0)) : kMet kX12_servedCount false 0 0 [.ref 116, .int a1] (kTp a9 (kHr x z9)) 130 (kRt (some (.int (f_X12_servedCount x a1))) (kTp a9 (kHr (g_X12_servedCount x a1) z9)) 130) := by
  refine kMet.in (by decide) rfl rfl _ rfl ?_
  refine k_aload_n (i := 0) dX12_servedCount_0 (rfl : 0 + 1 = 1) rfl rfl ?_
  refine k_aload_n (i := 0) dX12_servedCount_1 (rfl : 1 + 1 = 2) rfl rfl ?_
  refine k_iload_n (i := 1) dX12_servedCount_2 (rfl : 2 + 1 = 3) rfl rfl ?_
  refine k_callVd1 cv_X12_140 ⟨Nat.le_of_ble_eq_true rfl, Nat.le_of_ble_eq_true rfl⟩ (m_X12_isParty) dX12_servedCount_3 (rfl : 3 + 3 = 6) (Nat.le_of_ble_eq_true rfl) rfl rfl rfl ⟨Nat.le_of_ble_eq_true rfl, Nat.le_of_ble_eq_true rfl⟩ ?_
  refine k_if_eq (tgt := 13) dX12_servedCount_6 (rfl : 6 + 3 = 9) (by decide) (fun b6 => ?_) (fun b6 => ?_)
  · refine k_iconst (v := 1) dX12_servedCount_13 (rfl : 13 + 1 = 14) (by decide) ?_
    refine k_put 12 0 fp_X12_50 dX12_servedCount_14 (rfl : 14 + 3 = 17) (Nat.le_of_ble_eq_true rfl) rfl (Nat.le_of_ble_eq_true rfl) rfl rfl ?_
    refine kf_Y0 (v := 1) rfl ?_
    refine k_aload_n (i := 0) dX12_servedCount_17 (rfl : 17 + 1 = 18) rfl rfl ?_
    refine k_get 12 0 fg_X12_50 dX12_servedCount_18 (rfl : 18 + 3 = 21) (Nat.le_of_ble_eq_true rfl) rfl rfl ?_
    refine k_if_ne (tgt := 40) dX12_servedCount_21 (rfl : 21 + 3 = 24) (by decide) (fun b21 => ?_) (fun b21 => by exact absurd b21 (by first | decide | (show ¬ (1 : Int32) = 0; decide)))
    refine k_iconst (v := 0) dX12_servedCount_40 (rfl : 40 + 1 = 41) (by decide) ?_
    refine k_iret rfl rfl dX12_servedCount_41 (Nat.le_of_ble_eq_true rfl) (Nat.le_of_ble_eq_true rfl) ?_
    exact kRt_of (congrArg (fun z => some (Value.int z)) (Eq.symm (if_pos (show (f_X12_isParty (x.2 0) a1) = 0 from b6)))) (congrArg (fun z => kTp a9 (kHr z z9)) (Eq.symm (if_pos (show (f_X12_isParty (x.2 0) a1) = 0 from b6))))
  · refine k_iconst (v := 0) dX12_servedCount_9 (rfl : 9 + 1 = 10) (by decide) ?_
    refine k_goto (tgt := 14) dX12_servedCount_10 (by decide) ?_
    refine k_put 12 0 fp_X12_50 dX12_servedCount_14 (rfl : 14 + 3 = 17) (Nat.le_of_ble_eq_true rfl) rfl (Nat.le_of_ble_eq_true rfl) rfl rfl ?_
    refine kf_Y0 (v := 0) rfl ?_
    refine k_aload_n (i := 0) dX12_servedCount_17 (rfl : 17 + 1 = 18) rfl rfl ?_
    refine k_get 12 0 fg_X12_50 dX12_servedCount_18 (rfl : 18 + 3 = 21) (Nat.le_of_ble_eq_true rfl) rfl rfl ?_
    refine k_if_ne (tgt := 40) dX12_servedCount_21 (rfl : 21 + 3 = 24) (by decide) (fun b21 => by exact absurd (by first | decide | (show (0 : Int32) = 0; decide)) b21) (fun b21 => ?_)
    refine k_aload_n (i := 0) dX12_servedCount_24 (rfl : 24 + 1 = 25) rfl rfl ?_
    refine k_get 12 7 fg_X12_16 dX12_servedCount_25 (rfl : 25 + 3 = 28) (Nat.le_of_ble_eq_true rfl) rfl rfl ?_
    refine k_bipush (v := 76) dX12_servedCount_28 (rfl : 28 + 2 = 30) (by decide) ?_
    refine k_iconst (v := 2) dX12_servedCount_30 (rfl : 30 + 1 = 31) (by decide) ?_
    refine k_iload_n (i := 1) dX12_servedCount_31 (rfl : 31 + 1 = 32) rfl rfl ?_
    refine k_imul dX12_servedCount_32 (rfl : 32 + 1 = 33) ?_
    refine k_iadd dX12_servedCount_33 (rfl : 33 + 1 = 34) ?_
    refine k_iconst (v := 1) dX12_servedCount_34 (rfl : 34 + 1 = 35) (by decide) ?_
    refine k_iadd dX12_servedCount_35 (rfl : 35 + 1 = 36) ?_
    refine k_iald dX12_servedCount_36 (rfl : 36 + 1 = 37) (Nat.le_of_ble_eq_true rfl) rfl (p8_sv (ip_8 hv b6)) ?_
    refine k_goto (tgt := 41) dX12_servedCount_37 (by decide) ?_
    refine k_iret rfl rfl dX12_servedCount_41 (Nat.le_of_ble_eq_true rfl) (Nat.le_of_ble_eq_true rfl) ?_
    exact kRt_of (congrArg (fun z => some (Value.int z)) (Eq.symm (if_neg (show ¬ ((f_X12_isParty (x.2 0) a1) = 0) from b6)))) (congrArg (fun z => kTp a9 (kHr z z9)) (Eq.symm (if_neg (show ¬ ((f_X12_isParty (x.2 0) a1) = 0) from b6))))
def f_X12_partyIn (x : kY) (a1 : Int32) (a2 : Int32) : Int32 := if (f_X12_isCell a1 a2) = 0 then 0 else (if 0 ≤ (sdL (x.2 0) ((8 * a2) + a1) (Int32.toNatClampNeg ((x.2 0) 6)) 0) then (sdL (x.2 0) ((8 * a2) + a1) (Int32.toNatClampNeg ((x.2 0) 6)) 0) else 0)
def g_X12_partyIn (x : kY) (a1 : Int32) (a2 : Int32) : kY := if (f_X12_isCell a1 a2) = 0 then (yS x 0 1) else (if 0 ≤ (sdL (x.2 0) ((8 * a2) + a1) (Int32.toNatClampNeg ((x.2 0) 6)) 0) then (yS x 0 0) else (yS x 0 2))
set_option maxRecDepth 100000 in
set_option maxHeartbeats 4000000 in
theorem m_X12_partyIn {x : kY} {a9 : kH} {z9 : kE × kE} {a1 : Int32} {a2 : Int32} (hv : kMv (x.2 0)) : kMet kX12_partyIn false 0 0 [.ref 116, .int a1, .int a2] (kTp a9 (kHr x z9)) 130 (kRt (some (.int (f_X12_partyIn x a1 a2))) (kTp a9 (kHr (g_X12_partyIn x a1 a2) z9)) 130) := by
  refine kMet.in (by decide) rfl rfl _ rfl ?_
  refine k_aload_n (i := 0) dX12_partyIn_0 (rfl : 0 + 1 = 1) rfl rfl ?_
  refine k_iload_n (i := 1) dX12_partyIn_1 (rfl : 1 + 1 = 2) rfl rfl ?_
  refine k_iload_n (i := 2) dX12_partyIn_2 (rfl : 2 + 1 = 3) rfl rfl ?_
  refine k_callSd2 cv_X12_81 ⟨Nat.le_of_ble_eq_true rfl, Nat.le_of_ble_eq_true rfl⟩ (m_X12_isCell) dX12_partyIn_3 (rfl : 3 + 3 = 6) rfl ⟨Nat.le_of_ble_eq_true rfl, Nat.le_of_ble_eq_true rfl⟩ ?_
  refine k_if_ne (tgt := 13) dX12_partyIn_6 (rfl : 6 + 3 = 9) (by decide) (fun b6 => ?_) (fun b6 => ?_)
  · refine k_aload_n (i := 0) dX12_partyIn_13 (rfl : 13 + 1 = 14) rfl rfl ?_
    refine k_bipush (v := 8) dX12_partyIn_14 (rfl : 14 + 2 = 16) (by decide) ?_
    refine k_iload_n (i := 2) dX12_partyIn_16 (rfl : 16 + 1 = 17) rfl rfl ?_
    refine k_imul dX12_partyIn_17 (rfl : 17 + 1 = 18) ?_
    refine k_iload_n (i := 1) dX12_partyIn_18 (rfl : 18 + 1 = 19) rfl rfl ?_
    refine k_iadd dX12_partyIn_19 (rfl : 19 + 1 = 20) ?_
    refine k_callVd1 cv_X12_85 ⟨Nat.le_of_ble_eq_true rfl, Nat.le_of_ble_eq_true rfl⟩ (m_X12_standing hv) dX12_partyIn_20 (rfl : 20 + 3 = 23) (Nat.le_of_ble_eq_true rfl) rfl rfl rfl ⟨Nat.le_of_ble_eq_true rfl, Nat.le_of_ble_eq_true rfl⟩ ?_
    refine k_if_ge (tgt := 30) dX12_partyIn_23 (rfl : 23 + 3 = 26) (by decide) (fun b23 => ?_) (fun b23 => ?_)
    · refine k_iconst (v := 0) dX12_partyIn_30 (rfl : 30 + 1 = 31) (by decide) ?_
      refine k_put 12 0 fp_X12_50 dX12_partyIn_31 (rfl : 31 + 3 = 34) (Nat.le_of_ble_eq_true rfl) rfl (Nat.le_of_ble_eq_true rfl) rfl rfl ?_
      refine kf_Y0 (v := 0) rfl ?_
      refine k_aload_n (i := 0) dX12_partyIn_34 (rfl : 34 + 1 = 35) rfl rfl ?_
      refine k_get 12 0 fg_X12_50 dX12_partyIn_35 (rfl : 35 + 3 = 38) (Nat.le_of_ble_eq_true rfl) rfl rfl ?_
      refine k_if_ne (tgt := 54) dX12_partyIn_38 (rfl : 38 + 3 = 41) (by decide) (fun b38 => by exact absurd (by first | decide | (show (0 : Int32) = 0; decide)) b38) (fun b38 => ?_)
      refine k_aload_n (i := 0) dX12_partyIn_41 (rfl : 41 + 1 = 42) rfl rfl ?_
      refine k_bipush (v := 8) dX12_partyIn_42 (rfl : 42 + 2 = 44) (by decide) ?_
      refine k_iload_n (i := 2) dX12_partyIn_44 (rfl : 44 + 1 = 45) rfl rfl ?_
      refine k_imul dX12_partyIn_45 (rfl : 45 + 1 = 46) ?_
      refine k_iload_n (i := 1) dX12_partyIn_46 (rfl : 46 + 1 = 47) rfl rfl ?_
      refine k_iadd dX12_partyIn_47 (rfl : 47 + 1 = 48) ?_
      refine k_callVd1 cv_X12_85 ⟨Nat.le_of_ble_eq_true rfl, Nat.le_of_ble_eq_true rfl⟩ (m_X12_standing hv) dX12_partyIn_48 (rfl : 48 + 3 = 51) (Nat.le_of_ble_eq_true rfl) rfl rfl rfl ⟨Nat.le_of_ble_eq_true rfl, Nat.le_of_ble_eq_true rfl⟩ ?_
      refine k_goto (tgt := 55) dX12_partyIn_51 (by decide) ?_
      refine k_iret rfl rfl dX12_partyIn_55 (Nat.le_of_ble_eq_true rfl) (Nat.le_of_ble_eq_true rfl) ?_
      exact kRt_of (congrArg (fun z => some (Value.int z)) (Eq.symm (Eq.trans (if_neg (show ¬ ((f_X12_isCell a1 a2) = 0) from b6)) (if_pos (show 0 ≤ (sdL (x.2 0) ((8 * a2) + a1) (Int32.toNatClampNeg ((x.2 0) 6)) 0) from b23))))) (congrArg (fun z => kTp a9 (kHr z z9)) (Eq.symm (Eq.trans (if_neg (show ¬ ((f_X12_isCell a1 a2) = 0) from b6)) (if_pos (show 0 ≤ (sdL (x.2 0) ((8 * a2) + a1) (Int32.toNatClampNeg ((x.2 0) 6)) 0) from b23)))))
    · refine k_iconst (v := 2) dX12_partyIn_26 (rfl : 26 + 1 = 27) (by decide) ?_
      refine k_goto (tgt := 31) dX12_partyIn_27 (by decide) ?_
      refine k_put 12 0 fp_X12_50 dX12_partyIn_31 (rfl : 31 + 3 = 34) (Nat.le_of_ble_eq_true rfl) rfl (Nat.le_of_ble_eq_true rfl) rfl rfl ?_
      refine kf_Y0 (v := 2) rfl ?_
      refine k_aload_n (i := 0) dX12_partyIn_34 (rfl : 34 + 1 = 35) rfl rfl ?_
      refine k_get 12 0 fg_X12_50 dX12_partyIn_35 (rfl : 35 + 3 = 38) (Nat.le_of_ble_eq_true rfl) rfl rfl ?_
      refine k_if_ne (tgt := 54) dX12_partyIn_38 (rfl : 38 + 3 = 41) (by decide) (fun b38 => ?_) (fun b38 => by exact absurd b38 (by first | decide | (show ¬ (2 : Int32) = 0; decide)))
      refine k_iconst (v := 0) dX12_partyIn_54 (rfl : 54 + 1 = 55) (by decide) ?_
      refine k_iret rfl rfl dX12_partyIn_55 (Nat.le_of_ble_eq_true rfl) (Nat.le_of_ble_eq_true rfl) ?_
      exact kRt_of (congrArg (fun z => some (Value.int z)) (Eq.symm (Eq.trans (if_neg (show ¬ ((f_X12_isCell a1 a2) = 0) from b6)) (if_neg (show ¬ (0 ≤ (sdL (x.2 0) ((8 * a2) + a1) (Int32.toNatClampNeg ((x.2 0) 6)) 0)) from b23))))) (congrArg (fun z => kTp a9 (kHr z z9)) (Eq.symm (Eq.trans (if_neg (show ¬ ((f_X12_isCell a1 a2) = 0) from b6)) (if_neg (show ¬ (0 ≤ (sdL (x.2 0) ((8 * a2) + a1) (Int32.toNatClampNeg ((x.2 0) 6)) 0)) from b23)))))
  · refine k_iconst (v := 1) dX12_partyIn_9 (rfl : 9 + 1 = 10) (by decide) ?_
    refine k_goto (tgt := 31) dX12_partyIn_10 (by decide) ?_
    refine k_put 12 0 fp_X12_50 dX12_partyIn_31 (rfl : 31 + 3 = 34) (Nat.le_of_ble_eq_true rfl) rfl (Nat.le_of_ble_eq_true rfl) rfl rfl ?_
    refine kf_Y0 (v := 1) rfl ?_
    refine k_aload_n (i := 0) dX12_partyIn_34 (rfl : 34 + 1 = 35) rfl rfl ?_
    refine k_get 12 0 fg_X12_50 dX12_partyIn_35 (rfl : 35 + 3 = 38) (Nat.le_of_ble_eq_true rfl) rfl rfl ?_
    refine k_if_ne (tgt := 54) dX12_partyIn_38 (rfl : 38 + 3 = 41) (by decide) (fun b38 => ?_) (fun b38 => by exact absurd b38 (by first | decide | (show ¬ (1 : Int32) = 0; decide)))
    refine k_iconst (v := 0) dX12_partyIn_54 (rfl : 54 + 1 = 55) (by decide) ?_
    refine k_iret rfl rfl dX12_partyIn_55 (Nat.le_of_ble_eq_true rfl) (Nat.le_of_ble_eq_true rfl) ?_
    exact kRt_of (congrArg (fun z => some (Value.int z)) (Eq.symm (if_pos (show (f_X12_isCell a1 a2) = 0 from b6)))) (congrArg (fun z => kTp a9 (kHr z z9)) (Eq.symm (if_pos (show (f_X12_isCell a1 a2) = 0 from b6))))
def f_X12_pleaParty (x : kY) (a1 : Int32) : Int32 := if (f_X12_looks x a1) = 0 then 0 else (((g_X12_looks x a1).2 0) (Int32.toNatClampNeg (f_X12_pleaAt a1 0)))
def g_X12_pleaParty (x : kY) (a1 : Int32) : kY := if (f_X12_looks x a1) = 0 then (g_X12_looks x a1) else (g_X12_looks x a1)
set_option maxRecDepth 100000 in
set_option maxHeartbeats 4000000 in
theorem m_X12_pleaParty {x : kY} {a9 : kH} {z9 : kE × kE} {a1 : Int32} (hv : kMv (x.2 0)) : kMet kX12_pleaParty false 0 0 [.ref 116, .int a1] (kTp a9 (kHr x z9)) 130 (kRt (some (.int (f_X12_pleaParty x a1))) (kTp a9 (kHr (g_X12_pleaParty x a1) z9)) 130) := by
  refine kMet.in (by decide) rfl rfl _ rfl ?_
  refine k_aload_n (i := 0) dX12_pleaParty_0 (rfl : 0 + 1 = 1) rfl rfl ?_
  refine k_iload_n (i := 1) dX12_pleaParty_1 (rfl : 1 + 1 = 2) rfl rfl ?_
  refine k_callVd1 cv_X12_194 ⟨Nat.le_of_ble_eq_true rfl, Nat.le_of_ble_eq_true rfl⟩ (m_X12_looks) dX12_pleaParty_2 (rfl : 2 + 3 = 5) (Nat.le_of_ble_eq_true rfl) rfl rfl rfl ⟨Nat.le_of_ble_eq_true rfl, Nat.le_of_ble_eq_true rfl⟩ ?_
  refine k_if_eq (tgt := 21) dX12_pleaParty_5 (rfl : 5 + 3 = 8) (by decide) (fun b5 => ?_) (fun b5 => ?_)
  · refine k_iconst (v := 0) dX12_pleaParty_21 (rfl : 21 + 1 = 22) (by decide) ?_
    refine k_iret rfl rfl dX12_pleaParty_22 (Nat.le_of_ble_eq_true rfl) (Nat.le_of_ble_eq_true rfl) ?_
    exact kRt_of (congrArg (fun z => some (Value.int z)) (Eq.symm (if_pos (show (f_X12_looks x a1) = 0 from b5)))) (congrArg (fun z => kTp a9 (kHr z z9)) (Eq.symm (if_pos (show (f_X12_looks x a1) = 0 from b5))))
  · refine k_aload_n (i := 0) dX12_pleaParty_8 (rfl : 8 + 1 = 9) rfl rfl ?_
    refine k_get 12 7 fg_X12_16 dX12_pleaParty_9 (rfl : 9 + 3 = 12) (Nat.le_of_ble_eq_true rfl) rfl rfl ?_
    refine k_iload_n (i := 1) dX12_pleaParty_12 (rfl : 12 + 1 = 13) rfl rfl ?_
    refine k_iconst (v := 0) dX12_pleaParty_13 (rfl : 13 + 1 = 14) (by decide) ?_
    refine k_callSd2 cv_X12_77 ⟨Nat.le_of_ble_eq_true rfl, Nat.le_of_ble_eq_true rfl⟩ (m_X12_pleaAt) dX12_pleaParty_14 (rfl : 14 + 3 = 17) rfl ⟨Nat.le_of_ble_eq_true rfl, Nat.le_of_ble_eq_true rfl⟩ ?_
    refine k_iald dX12_pleaParty_17 (rfl : 17 + 1 = 18) (Nat.le_of_ble_eq_true rfl) rfl (by exact p8_plea (lk_8 hv b5) w3_0) ?_
    refine k_goto (tgt := 22) dX12_pleaParty_18 (by decide) ?_
    refine k_iret rfl rfl dX12_pleaParty_22 (Nat.le_of_ble_eq_true rfl) (Nat.le_of_ble_eq_true rfl) ?_
    exact kRt_of (congrArg (fun z => some (Value.int z)) (Eq.symm (if_neg (show ¬ ((f_X12_looks x a1) = 0) from b5)))) (congrArg (fun z => kTp a9 (kHr z z9)) (Eq.symm (if_neg (show ¬ ((f_X12_looks x a1) = 0) from b5))))
def f_X12_pleaFrom (x : kY) (a1 : Int32) : Int32 := if (f_X12_looks x a1) = 0 then 0 else (((g_X12_looks x a1).2 0) (Int32.toNatClampNeg (f_X12_pleaAt a1 1)))
def g_X12_pleaFrom (x : kY) (a1 : Int32) : kY := if (f_X12_looks x a1) = 0 then (g_X12_looks x a1) else (g_X12_looks x a1)
set_option maxRecDepth 100000 in
set_option maxHeartbeats 4000000 in
theorem m_X12_pleaFrom {x : kY} {a9 : kH} {z9 : kE × kE} {a1 : Int32} (hv : kMv (x.2 0)) : kMet kX12_pleaFrom false 0 0 [.ref 116, .int a1] (kTp a9 (kHr x z9)) 130 (kRt (some (.int (f_X12_pleaFrom x a1))) (kTp a9 (kHr (g_X12_pleaFrom x a1) z9)) 130) := by
  refine kMet.in (by decide) rfl rfl _ rfl ?_
  refine k_aload_n (i := 0) dX12_pleaFrom_0 (rfl : 0 + 1 = 1) rfl rfl ?_
  refine k_iload_n (i := 1) dX12_pleaFrom_1 (rfl : 1 + 1 = 2) rfl rfl ?_
  refine k_callVd1 cv_X12_194 ⟨Nat.le_of_ble_eq_true rfl, Nat.le_of_ble_eq_true rfl⟩ (m_X12_looks) dX12_pleaFrom_2 (rfl : 2 + 3 = 5) (Nat.le_of_ble_eq_true rfl) rfl rfl rfl ⟨Nat.le_of_ble_eq_true rfl, Nat.le_of_ble_eq_true rfl⟩ ?_
  refine k_if_eq (tgt := 21) dX12_pleaFrom_5 (rfl : 5 + 3 = 8) (by decide) (fun b5 => ?_) (fun b5 => ?_)
  · refine k_iconst (v := 0) dX12_pleaFrom_21 (rfl : 21 + 1 = 22) (by decide) ?_
    refine k_iret rfl rfl dX12_pleaFrom_22 (Nat.le_of_ble_eq_true rfl) (Nat.le_of_ble_eq_true rfl) ?_
    exact kRt_of (congrArg (fun z => some (Value.int z)) (Eq.symm (if_pos (show (f_X12_looks x a1) = 0 from b5)))) (congrArg (fun z => kTp a9 (kHr z z9)) (Eq.symm (if_pos (show (f_X12_looks x a1) = 0 from b5))))
  · refine k_aload_n (i := 0) dX12_pleaFrom_8 (rfl : 8 + 1 = 9) rfl rfl ?_
    refine k_get 12 7 fg_X12_16 dX12_pleaFrom_9 (rfl : 9 + 3 = 12) (Nat.le_of_ble_eq_true rfl) rfl rfl ?_
    refine k_iload_n (i := 1) dX12_pleaFrom_12 (rfl : 12 + 1 = 13) rfl rfl ?_
    refine k_iconst (v := 1) dX12_pleaFrom_13 (rfl : 13 + 1 = 14) (by decide) ?_
    refine k_callSd2 cv_X12_77 ⟨Nat.le_of_ble_eq_true rfl, Nat.le_of_ble_eq_true rfl⟩ (m_X12_pleaAt) dX12_pleaFrom_14 (rfl : 14 + 3 = 17) rfl ⟨Nat.le_of_ble_eq_true rfl, Nat.le_of_ble_eq_true rfl⟩ ?_
    refine k_iald dX12_pleaFrom_17 (rfl : 17 + 1 = 18) (Nat.le_of_ble_eq_true rfl) rfl (by exact p8_plea (lk_8 hv b5) w3_1) ?_
    refine k_goto (tgt := 22) dX12_pleaFrom_18 (by decide) ?_
    refine k_iret rfl rfl dX12_pleaFrom_22 (Nat.le_of_ble_eq_true rfl) (Nat.le_of_ble_eq_true rfl) ?_
    exact kRt_of (congrArg (fun z => some (Value.int z)) (Eq.symm (if_neg (show ¬ ((f_X12_looks x a1) = 0) from b5)))) (congrArg (fun z => kTp a9 (kHr z z9)) (Eq.symm (if_neg (show ¬ ((f_X12_looks x a1) = 0) from b5))))
def f_X12_pleaUntil (x : kY) (a1 : Int32) : Int32 := if (f_X12_looks x a1) = 0 then 0 else (f_X12_until ((g_X12_looks x a1).2 0) a1)
def g_X12_pleaUntil (x : kY) (a1 : Int32) : kY := if (f_X12_looks x a1) = 0 then (g_X12_looks x a1) else (g_X12_looks x a1)
set_option maxRecDepth 100000 in
set_option maxHeartbeats 4000000 in
theorem m_X12_pleaUntil {x : kY} {a9 : kH} {z9 : kE × kE} {a1 : Int32} (hv : kMv (x.2 0)) : kMet kX12_pleaUntil false 0 0 [.ref 116, .int a1] (kTp a9 (kHr x z9)) 130 (kRt (some (.int (f_X12_pleaUntil x a1))) (kTp a9 (kHr (g_X12_pleaUntil x a1) z9)) 130) := by
  refine kMet.in (by decide) rfl rfl _ rfl ?_
  refine k_aload_n (i := 0) dX12_pleaUntil_0 (rfl : 0 + 1 = 1) rfl rfl ?_
  refine k_iload_n (i := 1) dX12_pleaUntil_1 (rfl : 1 + 1 = 2) rfl rfl ?_
  refine k_callVd1 cv_X12_194 ⟨Nat.le_of_ble_eq_true rfl, Nat.le_of_ble_eq_true rfl⟩ (m_X12_looks) dX12_pleaUntil_2 (rfl : 2 + 3 = 5) (Nat.le_of_ble_eq_true rfl) rfl rfl rfl ⟨Nat.le_of_ble_eq_true rfl, Nat.le_of_ble_eq_true rfl⟩ ?_
  refine k_if_eq (tgt := 16) dX12_pleaUntil_5 (rfl : 5 + 3 = 8) (by decide) (fun b5 => ?_) (fun b5 => ?_)
  · refine k_iconst (v := 0) dX12_pleaUntil_16 (rfl : 16 + 1 = 17) (by decide) ?_
    refine k_iret rfl rfl dX12_pleaUntil_17 (Nat.le_of_ble_eq_true rfl) (Nat.le_of_ble_eq_true rfl) ?_
    exact kRt_of (congrArg (fun z => some (Value.int z)) (Eq.symm (if_pos (show (f_X12_looks x a1) = 0 from b5)))) (congrArg (fun z => kTp a9 (kHr z z9)) (Eq.symm (if_pos (show (f_X12_looks x a1) = 0 from b5))))
  · refine k_aload_n (i := 0) dX12_pleaUntil_8 (rfl : 8 + 1 = 9) rfl rfl ?_
    refine k_iload_n (i := 1) dX12_pleaUntil_9 (rfl : 9 + 1 = 10) rfl rfl ?_
    refine k_callVd1 cv_X12_197 ⟨Nat.le_of_ble_eq_true rfl, Nat.le_of_ble_eq_true rfl⟩ (m_X12_until (lk_8 hv b5)) dX12_pleaUntil_10 (rfl : 10 + 3 = 13) (Nat.le_of_ble_eq_true rfl) rfl rfl rfl ⟨Nat.le_of_ble_eq_true rfl, Nat.le_of_ble_eq_true rfl⟩ ?_
    refine k_goto (tgt := 17) dX12_pleaUntil_13 (by decide) ?_
    refine k_iret rfl rfl dX12_pleaUntil_17 (Nat.le_of_ble_eq_true rfl) (Nat.le_of_ble_eq_true rfl) ?_
    exact kRt_of (congrArg (fun z => some (Value.int z)) (Eq.symm (if_neg (show ¬ ((f_X12_looks x a1) = 0) from b5)))) (congrArg (fun z => kTp a9 (kHr z z9)) (Eq.symm (if_neg (show ¬ ((f_X12_looks x a1) = 0) from b5))))
def f_X12_mostHearingsByChains (x : kY)  : Int32 := (f_X12_mostHearings x )
def g_X12_mostHearingsByChains (x : kY)  : kY := (g_X12_mostHearings x )
set_option maxRecDepth 100000 in
set_option maxHeartbeats 4000000 in
theorem m_X12_mostHearingsByChains {x : kY} {a9 : kH} {z9 : kE × kE} (hv : kMv (x.2 0)) (hh : ∃ n, n < 2 ^ 30 ∧ (x.2 0) 0 = nI n) : kMet kX12_mostHearingsByChains false 0 0 [.ref 116] (kTp a9 (kHr x z9)) 130 (kRt (some (.int (f_X12_mostHearingsByChains x ))) (kTp a9 (kHr (g_X12_mostHearingsByChains x ) z9)) 130) := by
  refine kMet.in (by decide) rfl rfl _ rfl ?_
  refine k_aload_n (i := 0) dX12_mostHearingsByChains_0 (rfl : 0 + 1 = 1) rfl rfl ?_
  refine k_callVd0 cv_X12_210 ⟨Nat.le_of_ble_eq_true rfl, Nat.le_of_ble_eq_true rfl⟩ (m_X12_mostHearings hv hh) dX12_mostHearingsByChains_1 (rfl : 1 + 3 = 4) (Nat.le_of_ble_eq_true rfl) rfl rfl rfl ⟨Nat.le_of_ble_eq_true rfl, Nat.le_of_ble_eq_true rfl⟩ ?_
  refine k_iret rfl rfl dX12_mostHearingsByChains_4 (Nat.le_of_ble_eq_true rfl) (Nat.le_of_ble_eq_true rfl) ?_
  exact kRt_of rfl rfl
def f_X12_refusalReason (x : kY)  : Int32 := if (x.1 4) = 0 then (x.1 4) else (x.1 4)
def g_X12_refusalReason (x : kY)  : kY := if (x.1 4) = 0 then (yS x 0 1) else (yS x 0 0)
set_option maxRecDepth 100000 in
set_option maxHeartbeats 4000000 in
theorem m_X12_refusalReason {x : kY} {a9 : kH} {z9 : kE × kE} : kMet kX12_refusalReason false 0 0 [.ref 116] (kTp a9 (kHr x z9)) 130 (kRt (some (.int (f_X12_refusalReason x ))) (kTp a9 (kHr (g_X12_refusalReason x ) z9)) 130) := by
  refine kMet.in (by decide) rfl rfl _ rfl ?_
  refine k_aload_n (i := 0) dX12_refusalReason_0 (rfl : 0 + 1 = 1) rfl rfl ?_
  refine k_aload_n (i := 0) dX12_refusalReason_1 (rfl : 1 + 1 = 2) rfl rfl ?_
  refine k_get 12 4 fg_X12_53 dX12_refusalReason_2 (rfl : 2 + 3 = 5) (Nat.le_of_ble_eq_true rfl) rfl rfl ?_
  refine k_if_ne (tgt := 12) dX12_refusalReason_5 (rfl : 5 + 3 = 8) (by decide) (fun b5 => ?_) (fun b5 => ?_)
  · refine k_iconst (v := 0) dX12_refusalReason_12 (rfl : 12 + 1 = 13) (by decide) ?_
    refine k_put 12 0 fp_X12_50 dX12_refusalReason_13 (rfl : 13 + 3 = 16) (Nat.le_of_ble_eq_true rfl) rfl (Nat.le_of_ble_eq_true rfl) rfl rfl ?_
    refine kf_Y0 (v := 0) rfl ?_
    refine k_aload_n (i := 0) dX12_refusalReason_16 (rfl : 16 + 1 = 17) rfl rfl ?_
    refine k_get 12 4 fg_X12_53 dX12_refusalReason_17 (rfl : 17 + 3 = 20) (Nat.le_of_ble_eq_true rfl) rfl rfl ?_
    refine k_iret rfl rfl dX12_refusalReason_20 (Nat.le_of_ble_eq_true rfl) (Nat.le_of_ble_eq_true rfl) ?_
    exact kRt_of (congrArg (fun z => some (Value.int z)) (Eq.symm (if_neg (show ¬ ((x.1 4) = 0) from b5)))) (congrArg (fun z => kTp a9 (kHr z z9)) (Eq.symm (if_neg (show ¬ ((x.1 4) = 0) from b5))))
  · refine k_iconst (v := 1) dX12_refusalReason_8 (rfl : 8 + 1 = 9) (by decide) ?_
    refine k_goto (tgt := 13) dX12_refusalReason_9 (by decide) ?_
    refine k_put 12 0 fp_X12_50 dX12_refusalReason_13 (rfl : 13 + 3 = 16) (Nat.le_of_ble_eq_true rfl) rfl (Nat.le_of_ble_eq_true rfl) rfl rfl ?_
    refine kf_Y0 (v := 1) rfl ?_
    refine k_aload_n (i := 0) dX12_refusalReason_16 (rfl : 16 + 1 = 17) rfl rfl ?_
    refine k_get 12 4 fg_X12_53 dX12_refusalReason_17 (rfl : 17 + 3 = 20) (Nat.le_of_ble_eq_true rfl) rfl rfl ?_
    refine k_iret rfl rfl dX12_refusalReason_20 (Nat.le_of_ble_eq_true rfl) (Nat.le_of_ble_eq_true rfl) ?_
    exact kRt_of (congrArg (fun z => some (Value.int z)) (Eq.symm (if_pos (show (x.1 4) = 0 from b5)))) (congrArg (fun z => kTp a9 (kHr z z9)) (Eq.symm (if_pos (show (x.1 4) = 0 from b5))))
def f_X12_refusalDetail (x : kY)  : Int32 := if (x.1 4) = 0 then 0 else (x.1 5)
def g_X12_refusalDetail (x : kY)  : kY := if (x.1 4) = 0 then (yS x 0 1) else (yS x 0 0)
set_option maxRecDepth 100000 in
set_option maxHeartbeats 4000000 in
theorem m_X12_refusalDetail {x : kY} {a9 : kH} {z9 : kE × kE} : kMet kX12_refusalDetail false 0 0 [.ref 116] (kTp a9 (kHr x z9)) 130 (kRt (some (.int (f_X12_refusalDetail x ))) (kTp a9 (kHr (g_X12_refusalDetail x ) z9)) 130) := by
  refine kMet.in (by decide) rfl rfl _ rfl ?_
  refine k_aload_n (i := 0) dX12_refusalDetail_0 (rfl : 0 + 1 = 1) rfl rfl ?_
  refine k_aload_n (i := 0) dX12_refusalDetail_1 (rfl : 1 + 1 = 2) rfl rfl ?_
  refine k_get 12 4 fg_X12_53 dX12_refusalDetail_2 (rfl : 2 + 3 = 5) (Nat.le_of_ble_eq_true rfl) rfl rfl ?_
  refine k_if_ne (tgt := 12) dX12_refusalDetail_5 (rfl : 5 + 3 = 8) (by decide) (fun b5 => ?_) (fun b5 => ?_)
  · refine k_iconst (v := 0) dX12_refusalDetail_12 (rfl : 12 + 1 = 13) (by decide) ?_
    refine k_put 12 0 fp_X12_50 dX12_refusalDetail_13 (rfl : 13 + 3 = 16) (Nat.le_of_ble_eq_true rfl) rfl (Nat.le_of_ble_eq_true rfl) rfl rfl ?_
    refine kf_Y0 (v := 0) rfl ?_
    refine k_aload_n (i := 0) dX12_refusalDetail_16 (rfl : 16 + 1 = 17) rfl rfl ?_
    refine k_get 12 0 fg_X12_50 dX12_refusalDetail_17 (rfl : 17 + 3 = 20) (Nat.le_of_ble_eq_true rfl) rfl rfl ?_
    refine k_if_ne (tgt := 30) dX12_refusalDetail_20 (rfl : 20 + 3 = 23) (by decide) (fun b20 => by exact absurd (by first | decide | (show (0 : Int32) = 0; decide)) b20) (fun b20 => ?_)
    refine k_aload_n (i := 0) dX12_refusalDetail_23 (rfl : 23 + 1 = 24) rfl rfl ?_
    refine k_get 12 5 fg_X12_56 dX12_refusalDetail_24 (rfl : 24 + 3 = 27) (Nat.le_of_ble_eq_true rfl) rfl rfl ?_
    refine k_goto (tgt := 31) dX12_refusalDetail_27 (by decide) ?_
    refine k_iret rfl rfl dX12_refusalDetail_31 (Nat.le_of_ble_eq_true rfl) (Nat.le_of_ble_eq_true rfl) ?_
    exact kRt_of (congrArg (fun z => some (Value.int z)) (Eq.symm (if_neg (show ¬ ((x.1 4) = 0) from b5)))) (congrArg (fun z => kTp a9 (kHr z z9)) (Eq.symm (if_neg (show ¬ ((x.1 4) = 0) from b5))))
  · refine k_iconst (v := 1) dX12_refusalDetail_8 (rfl : 8 + 1 = 9) (by decide) ?_
    refine k_goto (tgt := 13) dX12_refusalDetail_9 (by decide) ?_
    refine k_put 12 0 fp_X12_50 dX12_refusalDetail_13 (rfl : 13 + 3 = 16) (Nat.le_of_ble_eq_true rfl) rfl (Nat.le_of_ble_eq_true rfl) rfl rfl ?_
    refine kf_Y0 (v := 1) rfl ?_
    refine k_aload_n (i := 0) dX12_refusalDetail_16 (rfl : 16 + 1 = 17) rfl rfl ?_
    refine k_get 12 0 fg_X12_50 dX12_refusalDetail_17 (rfl : 17 + 3 = 20) (Nat.le_of_ble_eq_true rfl) rfl rfl ?_
    refine k_if_ne (tgt := 30) dX12_refusalDetail_20 (rfl : 20 + 3 = 23) (by decide) (fun b20 => ?_) (fun b20 => by exact absurd b20 (by first | decide | (show ¬ (1 : Int32) = 0; decide)))
    refine k_iconst (v := 0) dX12_refusalDetail_30 (rfl : 30 + 1 = 31) (by decide) ?_
    refine k_iret rfl rfl dX12_refusalDetail_31 (Nat.le_of_ble_eq_true rfl) (Nat.le_of_ble_eq_true rfl) ?_
    exact kRt_of (congrArg (fun z => some (Value.int z)) (Eq.symm (if_pos (show (x.1 4) = 0 from b5)))) (congrArg (fun z => kTp a9 (kHr z z9)) (Eq.symm (if_pos (show (x.1 4) = 0 from b5))))
def f_X12_errorPosition (x : kY)  : Int32 := if 0 ≤ (x.1 2) then (x.1 2) else 0
def g_X12_errorPosition (x : kY)  : kY := if 0 ≤ (x.1 2) then (yS x 0 0) else (yS x 0 1)
set_option maxRecDepth 100000 in
set_option maxHeartbeats 4000000 in
theorem m_X12_errorPosition {x : kY} {a9 : kH} {z9 : kE × kE} : kMet kX12_errorPosition false 0 0 [.ref 116] (kTp a9 (kHr x z9)) 130 (kRt (some (.int (f_X12_errorPosition x ))) (kTp a9 (kHr (g_X12_errorPosition x ) z9)) 130) := by
  refine kMet.in (by decide) rfl rfl _ rfl ?_
  refine k_aload_n (i := 0) dX12_errorPosition_0 (rfl : 0 + 1 = 1) rfl rfl ?_
  refine k_aload_n (i := 0) dX12_errorPosition_1 (rfl : 1 + 1 = 2) rfl rfl ?_
  refine k_get 12 2 fg_X12_7 dX12_errorPosition_2 (rfl : 2 + 3 = 5) (Nat.le_of_ble_eq_true rfl) rfl rfl ?_
  refine k_if_ge (tgt := 12) dX12_errorPosition_5 (rfl : 5 + 3 = 8) (by decide) (fun b5 => ?_) (fun b5 => ?_)
  · refine k_iconst (v := 0) dX12_errorPosition_12 (rfl : 12 + 1 = 13) (by decide) ?_
    refine k_put 12 0 fp_X12_50 dX12_errorPosition_13 (rfl : 13 + 3 = 16) (Nat.le_of_ble_eq_true rfl) rfl (Nat.le_of_ble_eq_true rfl) rfl rfl ?_
    refine kf_Y0 (v := 0) rfl ?_
    refine k_aload_n (i := 0) dX12_errorPosition_16 (rfl : 16 + 1 = 17) rfl rfl ?_
    refine k_get 12 0 fg_X12_50 dX12_errorPosition_17 (rfl : 17 + 3 = 20) (Nat.le_of_ble_eq_true rfl) rfl rfl ?_
    refine k_if_ne (tgt := 30) dX12_errorPosition_20 (rfl : 20 + 3 = 23) (by decide) (fun b20 => by exact absurd (by first | decide | (show (0 : Int32) = 0; decide)) b20) (fun b20 => ?_)
    refine k_aload_n (i := 0) dX12_errorPosition_23 (rfl : 23 + 1 = 24) rfl rfl ?_
    refine k_get 12 2 fg_X12_7 dX12_errorPosition_24 (rfl : 24 + 3 = 27) (Nat.le_of_ble_eq_true rfl) rfl rfl ?_
    refine k_goto (tgt := 31) dX12_errorPosition_27 (by decide) ?_
    refine k_iret rfl rfl dX12_errorPosition_31 (Nat.le_of_ble_eq_true rfl) (Nat.le_of_ble_eq_true rfl) ?_
    exact kRt_of (congrArg (fun z => some (Value.int z)) (Eq.symm (if_pos (show 0 ≤ (x.1 2) from b5)))) (congrArg (fun z => kTp a9 (kHr z z9)) (Eq.symm (if_pos (show 0 ≤ (x.1 2) from b5))))
  · refine k_iconst (v := 1) dX12_errorPosition_8 (rfl : 8 + 1 = 9) (by decide) ?_
    refine k_goto (tgt := 13) dX12_errorPosition_9 (by decide) ?_
    refine k_put 12 0 fp_X12_50 dX12_errorPosition_13 (rfl : 13 + 3 = 16) (Nat.le_of_ble_eq_true rfl) rfl (Nat.le_of_ble_eq_true rfl) rfl rfl ?_
    refine kf_Y0 (v := 1) rfl ?_
    refine k_aload_n (i := 0) dX12_errorPosition_16 (rfl : 16 + 1 = 17) rfl rfl ?_
    refine k_get 12 0 fg_X12_50 dX12_errorPosition_17 (rfl : 17 + 3 = 20) (Nat.le_of_ble_eq_true rfl) rfl rfl ?_
    refine k_if_ne (tgt := 30) dX12_errorPosition_20 (rfl : 20 + 3 = 23) (by decide) (fun b20 => ?_) (fun b20 => by exact absurd b20 (by first | decide | (show ¬ (1 : Int32) = 0; decide)))
    refine k_iconst (v := 0) dX12_errorPosition_30 (rfl : 30 + 1 = 31) (by decide) ?_
    refine k_iret rfl rfl dX12_errorPosition_31 (Nat.le_of_ble_eq_true rfl) (Nat.le_of_ble_eq_true rfl) ?_
    exact kRt_of (congrArg (fun z => some (Value.int z)) (Eq.symm (if_neg (show ¬ (0 ≤ (x.1 2)) from b5)))) (congrArg (fun z => kTp a9 (kHr z z9)) (Eq.symm (if_neg (show ¬ (0 ≤ (x.1 2)) from b5))))
def f_X12_failedCommand (x : kY)  : Int32 := if 0 ≤ (x.1 3) then (x.1 3) else 0
def g_X12_failedCommand (x : kY)  : kY := if 0 ≤ (x.1 3) then (yS x 0 0) else (yS x 0 1)
set_option maxRecDepth 100000 in
set_option maxHeartbeats 4000000 in
theorem m_X12_failedCommand {x : kY} {a9 : kH} {z9 : kE × kE} : kMet kX12_failedCommand false 0 0 [.ref 116] (kTp a9 (kHr x z9)) 130 (kRt (some (.int (f_X12_failedCommand x ))) (kTp a9 (kHr (g_X12_failedCommand x ) z9)) 130) := by
  refine kMet.in (by decide) rfl rfl _ rfl ?_
  refine k_aload_n (i := 0) dX12_failedCommand_0 (rfl : 0 + 1 = 1) rfl rfl ?_
  refine k_aload_n (i := 0) dX12_failedCommand_1 (rfl : 1 + 1 = 2) rfl rfl ?_
  refine k_get 12 3 fg_X12_13 dX12_failedCommand_2 (rfl : 2 + 3 = 5) (Nat.le_of_ble_eq_true rfl) rfl rfl ?_
  refine k_if_ge (tgt := 12) dX12_failedCommand_5 (rfl : 5 + 3 = 8) (by decide) (fun b5 => ?_) (fun b5 => ?_)
  · refine k_iconst (v := 0) dX12_failedCommand_12 (rfl : 12 + 1 = 13) (by decide) ?_
    refine k_put 12 0 fp_X12_50 dX12_failedCommand_13 (rfl : 13 + 3 = 16) (Nat.le_of_ble_eq_true rfl) rfl (Nat.le_of_ble_eq_true rfl) rfl rfl ?_
    refine kf_Y0 (v := 0) rfl ?_
    refine k_aload_n (i := 0) dX12_failedCommand_16 (rfl : 16 + 1 = 17) rfl rfl ?_
    refine k_get 12 0 fg_X12_50 dX12_failedCommand_17 (rfl : 17 + 3 = 20) (Nat.le_of_ble_eq_true rfl) rfl rfl ?_
    refine k_if_ne (tgt := 30) dX12_failedCommand_20 (rfl : 20 + 3 = 23) (by decide) (fun b20 => by exact absurd (by first | decide | (show (0 : Int32) = 0; decide)) b20) (fun b20 => ?_)
    refine k_aload_n (i := 0) dX12_failedCommand_23 (rfl : 23 + 1 = 24) rfl rfl ?_
    refine k_get 12 3 fg_X12_13 dX12_failedCommand_24 (rfl : 24 + 3 = 27) (Nat.le_of_ble_eq_true rfl) rfl rfl ?_
    refine k_goto (tgt := 31) dX12_failedCommand_27 (by decide) ?_
    refine k_iret rfl rfl dX12_failedCommand_31 (Nat.le_of_ble_eq_true rfl) (Nat.le_of_ble_eq_true rfl) ?_
    exact kRt_of (congrArg (fun z => some (Value.int z)) (Eq.symm (if_pos (show 0 ≤ (x.1 3) from b5)))) (congrArg (fun z => kTp a9 (kHr z z9)) (Eq.symm (if_pos (show 0 ≤ (x.1 3) from b5))))
  · refine k_iconst (v := 1) dX12_failedCommand_8 (rfl : 8 + 1 = 9) (by decide) ?_
    refine k_goto (tgt := 13) dX12_failedCommand_9 (by decide) ?_
    refine k_put 12 0 fp_X12_50 dX12_failedCommand_13 (rfl : 13 + 3 = 16) (Nat.le_of_ble_eq_true rfl) rfl (Nat.le_of_ble_eq_true rfl) rfl rfl ?_
    refine kf_Y0 (v := 1) rfl ?_
    refine k_aload_n (i := 0) dX12_failedCommand_16 (rfl : 16 + 1 = 17) rfl rfl ?_
    refine k_get 12 0 fg_X12_50 dX12_failedCommand_17 (rfl : 17 + 3 = 20) (Nat.le_of_ble_eq_true rfl) rfl rfl ?_
    refine k_if_ne (tgt := 30) dX12_failedCommand_20 (rfl : 20 + 3 = 23) (by decide) (fun b20 => ?_) (fun b20 => by exact absurd b20 (by first | decide | (show ¬ (1 : Int32) = 0; decide)))
    refine k_iconst (v := 0) dX12_failedCommand_30 (rfl : 30 + 1 = 31) (by decide) ?_
    refine k_iret rfl rfl dX12_failedCommand_31 (Nat.le_of_ble_eq_true rfl) (Nat.le_of_ble_eq_true rfl) ?_
    exact kRt_of (congrArg (fun z => some (Value.int z)) (Eq.symm (if_neg (show ¬ (0 ≤ (x.1 3)) from b5)))) (congrArg (fun z => kTp a9 (kHr z z9)) (Eq.symm (if_neg (show ¬ (0 ≤ (x.1 3)) from b5))))
def f_X12_servingThrowsBySets (x : kY) (a1 : Int32) : Int64 := (f_X12_servingThrows x a1)
def g_X12_servingThrowsBySets (x : kY) (a1 : Int32) : kY := (g_X12_servingThrows x a1)
set_option maxRecDepth 100000 in
set_option maxHeartbeats 4000000 in
theorem m_X12_servingThrowsBySets {x : kY} {a9 : kH} {z9 : kE × kE} {a1 : Int32} (hv : kMv (x.2 0)) : kMet kX12_servingThrowsBySets false 0 0 [.ref 116, .int a1] (kTp a9 (kHr x z9)) 130 (kRt (some (.long (f_X12_servingThrowsBySets x a1))) (kTp a9 (kHr (g_X12_servingThrowsBySets x a1) z9)) 130) := by
  refine kMet.in (by decide) rfl rfl _ rfl ?_
  refine k_aload_n (i := 0) dX12_servingThrowsBySets_0 (rfl : 0 + 1 = 1) rfl rfl ?_
  refine k_iload_n (i := 1) dX12_servingThrowsBySets_1 (rfl : 1 + 1 = 2) rfl rfl ?_
  refine k_callVd1 cv_X12_171 ⟨Nat.le_of_ble_eq_true rfl, Nat.le_of_ble_eq_true rfl⟩ (m_X12_servingThrows hv) dX12_servingThrowsBySets_2 (rfl : 2 + 3 = 5) (Nat.le_of_ble_eq_true rfl) rfl rfl rfl ⟨Nat.le_of_ble_eq_true rfl, Nat.le_of_ble_eq_true rfl⟩ ?_
  refine k_lret rfl dX12_servingThrowsBySets_5 (Nat.le_of_ble_eq_true rfl) (Nat.le_of_ble_eq_true rfl) ?_
  exact kRt_of rfl rfl
def f_X12_save (x : kY)  : Int32 := ((x.2 0) 6)
def g_X12_save (x : kY)  : kY := (yS (yR (yS x 0 0) 2 (x.2 0)) 6 1)
set_option maxRecDepth 100000 in
set_option maxHeartbeats 4000000 in
theorem m_X12_save {x : kY} {a9 : kH} {z9 : kE × kE} : kMet kX12_save false 0 0 [.ref 116] (kTp a9 (kHr x z9)) 130 (kRt (some (.int (f_X12_save x ))) (kTp a9 (kHr (g_X12_save x ) z9)) 130) := by
  refine kMet.in (by decide) rfl rfl _ rfl ?_
  refine k_aload_n (i := 0) dX12_save_0 (rfl : 0 + 1 = 1) rfl rfl ?_
  refine k_iconst (v := 0) dX12_save_1 (rfl : 1 + 1 = 2) (by decide) ?_
  refine k_put 12 0 fp_X12_50 dX12_save_2 (rfl : 2 + 3 = 5) (Nat.le_of_ble_eq_true rfl) rfl (Nat.le_of_ble_eq_true rfl) rfl rfl ?_
  refine kf_Y0 (v := 0) rfl ?_
  refine k_aload_n (i := 0) dX12_save_5 (rfl : 5 + 1 = 6) rfl rfl ?_
  refine k_get 12 9 fg_X12_23 dX12_save_6 (rfl : 6 + 3 = 9) (Nat.le_of_ble_eq_true rfl) rfl rfl ?_
  refine k_aload_n (i := 0) dX12_save_9 (rfl : 9 + 1 = 10) rfl rfl ?_
  refine k_get 12 7 fg_X12_16 dX12_save_10 (rfl : 10 + 3 = 13) (Nat.le_of_ble_eq_true rfl) rfl rfl ?_
  refine k_callSv2 cv_X12_63 ⟨Nat.le_of_ble_eq_true rfl, Nat.le_of_ble_eq_true rfl⟩ (m_X12_lays (Nat.le_of_ble_eq_true rfl) (Nat.le_of_ble_eq_true rfl) (by decide) rfl rfl) dX12_save_13 (rfl : 13 + 3 = 16) rfl ⟨Nat.le_of_ble_eq_true rfl, Nat.le_of_ble_eq_true rfl⟩ ?_
  refine kf_Z2 (f := (x.2 0)) rfl ?_
  refine k_aload_n (i := 0) dX12_save_16 (rfl : 16 + 1 = 17) rfl rfl ?_
  refine k_iconst (v := 1) dX12_save_17 (rfl : 17 + 1 = 18) (by decide) ?_
  refine k_put 12 6 fp_X12_277 dX12_save_18 (rfl : 18 + 3 = 21) (Nat.le_of_ble_eq_true rfl) rfl (Nat.le_of_ble_eq_true rfl) rfl rfl ?_
  refine kf_Y6 (v := 1) rfl ?_
  refine k_aload_n (i := 0) dX12_save_21 (rfl : 21 + 1 = 22) rfl rfl ?_
  refine k_get 12 7 fg_X12_16 dX12_save_22 (rfl : 22 + 3 = 25) (Nat.le_of_ble_eq_true rfl) rfl rfl ?_
  refine k_bipush (v := 6) dX12_save_25 (rfl : 25 + 2 = 27) (by decide) ?_
  refine k_ialdc (c := 6) (by decide) dX12_save_27 (rfl : 27 + 1 = 28) (Nat.le_of_ble_eq_true rfl) rfl (vp_in_iff.mpr (by decide)) ?_
  refine k_iret rfl rfl dX12_save_28 (Nat.le_of_ble_eq_true rfl) (Nat.le_of_ble_eq_true rfl) ?_
  exact kRt_of rfl rfl
def f_X12_restore (x : kY)  : Int32 := if (x.1 6) = 0 then 0 else ((x.2 2) 6)
def g_X12_restore (x : kY)  : kY := if (x.1 6) = 0 then (yS x 0 1) else (yS (yR (yS x 0 0) 0 (x.2 2)) 1 0)
set_option maxRecDepth 100000 in
set_option maxHeartbeats 4000000 in
theorem m_X12_restore {x : kY} {a9 : kH} {z9 : kE × kE} : kMet kX12_restore false 0 0 [.ref 116] (kTp a9 (kHr x z9)) 130 (kRt (some (.int (f_X12_restore x ))) (kTp a9 (kHr (g_X12_restore x ) z9)) 130) := by
  refine kMet.in (by decide) rfl rfl _ rfl ?_
  refine k_aload_n (i := 0) dX12_restore_0 (rfl : 0 + 1 = 1) rfl rfl ?_
  refine k_aload_n (i := 0) dX12_restore_1 (rfl : 1 + 1 = 2) rfl rfl ?_
  refine k_get 12 6 fg_X12_277 dX12_restore_2 (rfl : 2 + 3 = 5) (Nat.le_of_ble_eq_true rfl) rfl rfl ?_
  refine k_if_eq (tgt := 12) dX12_restore_5 (rfl : 5 + 3 = 8) (by decide) (fun b5 => ?_) (fun b5 => ?_)
  · refine k_iconst (v := 1) dX12_restore_12 (rfl : 12 + 1 = 13) (by decide) ?_
    refine k_put 12 0 fp_X12_50 dX12_restore_13 (rfl : 13 + 3 = 16) (Nat.le_of_ble_eq_true rfl) rfl (Nat.le_of_ble_eq_true rfl) rfl rfl ?_
    refine kf_Y0 (v := 1) rfl ?_
    refine k_aload_n (i := 0) dX12_restore_16 (rfl : 16 + 1 = 17) rfl rfl ?_
    refine k_get 12 0 fg_X12_50 dX12_restore_17 (rfl : 17 + 3 = 20) (Nat.le_of_ble_eq_true rfl) rfl rfl ?_
    refine k_if_eq (tgt := 25) dX12_restore_20 (rfl : 20 + 3 = 23) (by decide) (fun b20 => by exact absurd b20 (by first | decide | (show ¬ (1 : Int32) = 0; decide))) (fun b20 => ?_)
    refine k_iconst (v := 0) dX12_restore_23 (rfl : 23 + 1 = 24) (by decide) ?_
    refine k_iret rfl rfl dX12_restore_24 (Nat.le_of_ble_eq_true rfl) (Nat.le_of_ble_eq_true rfl) ?_
    exact kRt_of (congrArg (fun z => some (Value.int z)) (Eq.symm (if_pos (show (x.1 6) = 0 from b5)))) (congrArg (fun z => kTp a9 (kHr z z9)) (Eq.symm (if_pos (show (x.1 6) = 0 from b5))))
  · refine k_iconst (v := 0) dX12_restore_8 (rfl : 8 + 1 = 9) (by decide) ?_
    refine k_goto (tgt := 13) dX12_restore_9 (by decide) ?_
    refine k_put 12 0 fp_X12_50 dX12_restore_13 (rfl : 13 + 3 = 16) (Nat.le_of_ble_eq_true rfl) rfl (Nat.le_of_ble_eq_true rfl) rfl rfl ?_
    refine kf_Y0 (v := 0) rfl ?_
    refine k_aload_n (i := 0) dX12_restore_16 (rfl : 16 + 1 = 17) rfl rfl ?_
    refine k_get 12 0 fg_X12_50 dX12_restore_17 (rfl : 17 + 3 = 20) (Nat.le_of_ble_eq_true rfl) rfl rfl ?_
    refine k_if_eq (tgt := 25) dX12_restore_20 (rfl : 20 + 3 = 23) (by decide) (fun b20 => ?_) (fun b20 => by exact absurd (by first | decide | (show (0 : Int32) = 0; decide)) b20)
    refine k_aload_n (i := 0) dX12_restore_25 (rfl : 25 + 1 = 26) rfl rfl ?_
    refine k_get 12 7 fg_X12_16 dX12_restore_26 (rfl : 26 + 3 = 29) (Nat.le_of_ble_eq_true rfl) rfl rfl ?_
    refine k_aload_n (i := 0) dX12_restore_29 (rfl : 29 + 1 = 30) rfl rfl ?_
    refine k_get 12 9 fg_X12_23 dX12_restore_30 (rfl : 30 + 3 = 33) (Nat.le_of_ble_eq_true rfl) rfl rfl ?_
    refine k_callSv2 cv_X12_63 ⟨Nat.le_of_ble_eq_true rfl, Nat.le_of_ble_eq_true rfl⟩ (m_X12_lays (Nat.le_of_ble_eq_true rfl) (Nat.le_of_ble_eq_true rfl) (by decide) rfl rfl) dX12_restore_33 (rfl : 33 + 3 = 36) rfl ⟨Nat.le_of_ble_eq_true rfl, Nat.le_of_ble_eq_true rfl⟩ ?_
    refine kf_Z0 (f := (x.2 2)) rfl ?_
    refine k_aload_n (i := 0) dX12_restore_36 (rfl : 36 + 1 = 37) rfl rfl ?_
    refine k_iconst (v := 0) dX12_restore_37 (rfl : 37 + 1 = 38) (by decide) ?_
    refine k_put 12 1 fp_X12_67 dX12_restore_38 (rfl : 38 + 3 = 41) (Nat.le_of_ble_eq_true rfl) rfl (Nat.le_of_ble_eq_true rfl) rfl rfl ?_
    refine kf_Y1 (v := 0) rfl ?_
    refine k_aload_n (i := 0) dX12_restore_41 (rfl : 41 + 1 = 42) rfl rfl ?_
    refine k_get 12 7 fg_X12_16 dX12_restore_42 (rfl : 42 + 3 = 45) (Nat.le_of_ble_eq_true rfl) rfl rfl ?_
    refine k_bipush (v := 6) dX12_restore_45 (rfl : 45 + 2 = 47) (by decide) ?_
    refine k_ialdc (c := 6) (by decide) dX12_restore_47 (rfl : 47 + 1 = 48) (Nat.le_of_ble_eq_true rfl) rfl (vp_in_iff.mpr (by decide)) ?_
    refine k_iret rfl rfl dX12_restore_48 (Nat.le_of_ble_eq_true rfl) (Nat.le_of_ble_eq_true rfl) ?_
    exact kRt_of (congrArg (fun z => some (Value.int z)) (Eq.symm (if_neg (show ¬ ((x.1 6) = 0) from b5)))) (congrArg (fun z => kTp a9 (kHr z z9)) (Eq.symm (if_neg (show ¬ ((x.1 6) = 0) from b5))))
theorem un_7 {x : kY} {c : Nat} (hc : c ≤ 8) (e : x.1 1 = nI c) (h0 : ¬ x.1 1 = 0) : ∃ m, m < 8 ∧ x.1 1 - 1 = nI m := by
  obtain ⟨m, rfl⟩ : ∃ m, c = m + 1 := by
    rcases Nat.eq_zero_or_pos c with q | q
    · subst q; exact absurd e h0
    · exact ⟨c - 1, by omega⟩
  exact ⟨m, by omega, by rw [e, nI_pred]⟩
def unL : Nat → kY → Nat → kY
  | 0, x, j => x
  | k + 1, x, j => (unL k (yR x 0 (upd (x.2 0) (Int32.toNatClampNeg (nI j)) ((x.2 3) (Int32.toNatClampNeg (((x.1 1) * 116) + (nI j)))))) (j + 1))
set_option maxRecDepth 100000 in
set_option maxHeartbeats 4000000 in
theorem lunL {a9 : kH} {z9 : kE × kE} {Q : kQ} {c : Nat}  (hc : c < 8) : ∀ (k : Nat) (x : kY) (j : Nat), j + k = 116 → x.1 1 = nI c → (∀ (z1 : Value), kEv kX12_undo (kRm kX12_undo 0 0) (kFm false 0 0 (Q)) false 69 [.ref 116, z1] [] (kTp a9 (kHr (unL k x j) z9)) 130 0 0) → kEv kX12_undo (kRm kX12_undo 0 0) (kFm false 0 0 (Q)) false 37 [.ref 116, .int (nI j)] [] (kTp a9 (kHr x z9)) 130 0 0 := by
  intro k
  induction k with
  | zero =>
    intro x j hj en hx
    refine k_iload_n (i := 1) dX12_undo_37 (rfl : 37 + 1 = 38) rfl rfl ?_
    refine k_bipush (v := 116) dX12_undo_38 (rfl : 38 + 2 = 40) (by decide) ?_
    refine k_icmp_ge (tgt := 69) dX12_undo_40 (rfl : 40 + 3 = 43) (by decide) (fun b40 => ?_) (fun b40 => by exact absurd (nI_le (a := 116) (b := j) (by omega) (by omega)) b40)
    rw [unL] at hx
    exact hx _
  | succ k ih =>
    intro x j hj en hx
    refine k_iload_n (i := 1) dX12_undo_37 (rfl : 37 + 1 = 38) rfl rfl ?_
    refine k_bipush (v := 116) dX12_undo_38 (rfl : 38 + 2 = 40) (by decide) ?_
    refine k_icmp_ge (tgt := 69) dX12_undo_40 (rfl : 40 + 3 = 43) (by decide) (fun b40 => by exact absurd b40 (nI_ge (a := j) (b := 116) (by omega) (by decide))) (fun b40 => ?_)
    refine k_aload_n (i := 0) dX12_undo_43 (rfl : 43 + 1 = 44) rfl rfl ?_
    refine k_get 12 7 fg_X12_16 dX12_undo_44 (rfl : 44 + 3 = 47) (Nat.le_of_ble_eq_true rfl) rfl rfl ?_
    refine k_iload_n (i := 1) dX12_undo_47 (rfl : 47 + 1 = 48) rfl rfl ?_
    refine k_aload_n (i := 0) dX12_undo_48 (rfl : 48 + 1 = 49) rfl rfl ?_
    refine k_get 12 10 fg_X12_26 dX12_undo_49 (rfl : 49 + 3 = 52) (Nat.le_of_ble_eq_true rfl) rfl rfl ?_
    refine k_aload_n (i := 0) dX12_undo_52 (rfl : 52 + 1 = 53) rfl rfl ?_
    refine k_get 12 1 fg_X12_67 dX12_undo_53 (rfl : 53 + 3 = 56) (Nat.le_of_ble_eq_true rfl) rfl rfl ?_
    refine k_bipush (v := 116) dX12_undo_56 (rfl : 56 + 2 = 58) (by decide) ?_
    refine k_imul dX12_undo_58 (rfl : 58 + 1 = 59) ?_
    refine k_iload_n (i := 1) dX12_undo_59 (rfl : 59 + 1 = 60) rfl rfl ?_
    refine k_iadd dX12_undo_60 (rfl : 60 + 1 = 61) ?_
    refine k_iald dX12_undo_61 (rfl : 61 + 1 = 62) (Nat.le_of_ble_eq_true rfl) rfl (in_ch hc (by omega) en) ?_
    refine k_iast dX12_undo_62 (rfl : 62 + 1 = 63) (Nat.le_of_ble_eq_true rfl) rfl (vp_in_nI (by omega) (by omega)) ?_
    refine kf_Z0 (f := (upd (x.2 0) (Int32.toNatClampNeg (nI j)) ((x.2 3) (Int32.toNatClampNeg (((x.1 1) * 116) + (nI j)))))) rfl ?_
    refine k_iinc (i := 1) (v := (nI (j + 1))) dX12_undo_63 (rfl : 63 + 3 = 66) rfl (Nat.le_of_ble_eq_true rfl) (nI_1 _) ?_
    refine k_ls (ls2 := [.ref 116, .int (nI (j + 1))]) rfl ?_
    refine k_goto (tgt := 37) dX12_undo_66 (by decide) ?_
    rw [unL] at hx
    exact ih (yR x 0 (upd (x.2 0) (Int32.toNatClampNeg (nI j)) ((x.2 3) (Int32.toNatClampNeg (((x.1 1) * 116) + (nI j)))))) (j + 1) (by omega) en hx
def f_X12_undo (x : kY)  : Int32 := if (x.1 1) = 0 then 0 else ((unL 116 (yS (yS x 0 0) 1 ((x.1 1) - 1)) 0).1 1)
def g_X12_undo (x : kY)  : kY := if (x.1 1) = 0 then (yS x 0 1) else (unL 116 (yS (yS x 0 0) 1 ((x.1 1) - 1)) 0)
set_option maxRecDepth 100000 in
set_option maxHeartbeats 4000000 in
theorem m_X12_undo {x : kY} {a9 : kH} {z9 : kE × kE} {c : Nat} (h8 : c ≤ 8) (ec : x.1 1 = nI c) : kMet kX12_undo false 0 0 [.ref 116] (kTp a9 (kHr x z9)) 130 (kRt (some (.int (f_X12_undo x ))) (kTp a9 (kHr (g_X12_undo x ) z9)) 130) := by
  refine kMet.in (by decide) rfl rfl _ rfl ?_
  refine k_aload_n (i := 0) dX12_undo_0 (rfl : 0 + 1 = 1) rfl rfl ?_
  refine k_aload_n (i := 0) dX12_undo_1 (rfl : 1 + 1 = 2) rfl rfl ?_
  refine k_get 12 1 fg_X12_67 dX12_undo_2 (rfl : 2 + 3 = 5) (Nat.le_of_ble_eq_true rfl) rfl rfl ?_
  refine k_if_ne (tgt := 12) dX12_undo_5 (rfl : 5 + 3 = 8) (by decide) (fun b5 => ?_) (fun b5 => ?_)
  · refine k_iconst (v := 0) dX12_undo_12 (rfl : 12 + 1 = 13) (by decide) ?_
    refine k_put 12 0 fp_X12_50 dX12_undo_13 (rfl : 13 + 3 = 16) (Nat.le_of_ble_eq_true rfl) rfl (Nat.le_of_ble_eq_true rfl) rfl rfl ?_
    refine kf_Y0 (v := 0) rfl ?_
    refine k_aload_n (i := 0) dX12_undo_16 (rfl : 16 + 1 = 17) rfl rfl ?_
    refine k_get 12 0 fg_X12_50 dX12_undo_17 (rfl : 17 + 3 = 20) (Nat.le_of_ble_eq_true rfl) rfl rfl ?_
    refine k_if_eq (tgt := 25) dX12_undo_20 (rfl : 20 + 3 = 23) (by decide) (fun b20 => ?_) (fun b20 => by exact absurd (by first | decide | (show (0 : Int32) = 0; decide)) b20)
    refine k_aload_n (i := 0) dX12_undo_25 (rfl : 25 + 1 = 26) rfl rfl ?_
    refine k_dup dX12_undo_26 (rfl : 26 + 1 = 27) rfl ?_
    refine k_get 12 1 fg_X12_67 dX12_undo_27 (rfl : 27 + 3 = 30) (Nat.le_of_ble_eq_true rfl) rfl rfl ?_
    refine k_iconst (v := 1) dX12_undo_30 (rfl : 30 + 1 = 31) (by decide) ?_
    refine k_isub dX12_undo_31 (rfl : 31 + 1 = 32) ?_
    refine k_put 12 1 fp_X12_67 dX12_undo_32 (rfl : 32 + 3 = 35) (Nat.le_of_ble_eq_true rfl) rfl (Nat.le_of_ble_eq_true rfl) rfl rfl ?_
    refine kf_Y1 (v := ((x.1 1) - 1)) rfl ?_
    refine k_iconst (v := 0) dX12_undo_35 (rfl : 35 + 1 = 36) (by decide) ?_
    refine k_istore_n (i := 1) dX12_undo_36 (rfl : 36 + 1 = 37) rfl (Nat.le_of_ble_eq_true rfl) ?_
    refine k_ls (ls2 := [.ref 116, .int 0]) rfl ?_
    obtain ⟨m9, q9⟩ := un_7 h8 ec b5
    refine lunL q9.1 116 (yS (yS x 0 0) 1 ((x.1 1) - 1)) 0 (by omega) q9.2 (fun z1 => ?_)
    generalize hw37 : (unL 116 (yS (yS x 0 0) 1 ((x.1 1) - 1)) 0) = w37
    refine k_aload_n (i := 0) dX12_undo_69 (rfl : 69 + 1 = 70) rfl rfl ?_
    refine k_get 12 1 fg_X12_67 dX12_undo_70 (rfl : 70 + 3 = 73) (Nat.le_of_ble_eq_true rfl) rfl rfl ?_
    refine k_iret rfl rfl dX12_undo_73 (Nat.le_of_ble_eq_true rfl) (Nat.le_of_ble_eq_true rfl) ?_
    subst hw37
    exact kRt_of (congrArg (fun z => some (Value.int z)) (Eq.symm (if_neg (show ¬ ((x.1 1) = 0) from b5)))) (congrArg (fun z => kTp a9 (kHr z z9)) (Eq.symm (if_neg (show ¬ ((x.1 1) = 0) from b5))))
  · refine k_iconst (v := 1) dX12_undo_8 (rfl : 8 + 1 = 9) (by decide) ?_
    refine k_goto (tgt := 13) dX12_undo_9 (by decide) ?_
    refine k_put 12 0 fp_X12_50 dX12_undo_13 (rfl : 13 + 3 = 16) (Nat.le_of_ble_eq_true rfl) rfl (Nat.le_of_ble_eq_true rfl) rfl rfl ?_
    refine kf_Y0 (v := 1) rfl ?_
    refine k_aload_n (i := 0) dX12_undo_16 (rfl : 16 + 1 = 17) rfl rfl ?_
    refine k_get 12 0 fg_X12_50 dX12_undo_17 (rfl : 17 + 3 = 20) (Nat.le_of_ble_eq_true rfl) rfl rfl ?_
    refine k_if_eq (tgt := 25) dX12_undo_20 (rfl : 20 + 3 = 23) (by decide) (fun b20 => by exact absurd b20 (by first | decide | (show ¬ (1 : Int32) = 0; decide))) (fun b20 => ?_)
    refine k_iconst (v := 0) dX12_undo_23 (rfl : 23 + 1 = 24) (by decide) ?_
    refine k_iret rfl rfl dX12_undo_24 (Nat.le_of_ble_eq_true rfl) (Nat.le_of_ble_eq_true rfl) ?_
    exact kRt_of (congrArg (fun z => some (Value.int z)) (Eq.symm (if_pos (show (x.1 1) = 0 from b5)))) (congrArg (fun z => kTp a9 (kHr z z9)) (Eq.symm (if_pos (show (x.1 1) = 0 from b5))))
