theorem kIv_pl {c : kCo} (iv : kIv c) (h : ¬ 8 ≤ c.2.1 6) : vp_in (c.2.1 6) 8 := by
  obtain ⟨n, hn, e⟩ := iv.2.1
  rw [e] at h ⊢
  refine vp_in_nI ?_ (by omega)
  rcases Nat.lt_or_ge n 8 with q | q
  · exact q
  · exact absurd (nI_le (a := 8) (b := n) q (by omega)) h
def f_X3_sitsAt (x : kK) (a1 : Int32) : Int32 := if ((Int32.toUInt32 ((x.1 0).2.1 5) >>> (Int32.toUInt32 (a1 - a1 / 24 * 24) &&& Int32.toUInt32 31)).toInt32 &&& 1) = 0 then 0 else 1
set_option maxRecDepth 100000 in
set_option maxHeartbeats 4000000 in
theorem m_X3_sitsAt {x : kK} {r : kH} {a1 : Int32} : kMet kX3_sitsAt false 0 0 [.ref 4, .int a1] (kTp (kHc x) r) 130 (kRt (some (.int (f_X3_sitsAt x a1))) (kTp (kHc x) r) 130) := by
  refine kMet.in (by decide) rfl rfl _ rfl ?_
  refine k_aload_n (i := 0) dX3_sitsAt_0 (rfl : 0 + 1 = 1) rfl rfl ?_
  refine k_get 3 1 fg_X3_10 dX3_sitsAt_1 (rfl : 1 + 3 = 4) (Nat.le_of_ble_eq_true rfl) rfl rfl ?_
  refine k_iload_n (i := 1) dX3_sitsAt_4 (rfl : 4 + 1 = 5) rfl rfl ?_
  refine k_bipush (v := 24) dX3_sitsAt_5 (rfl : 5 + 2 = 7) (by decide) ?_
  refine k_irem dX3_sitsAt_7 (rfl : 7 + 1 = 8) (by decide) ?_
  refine k_iushr dX3_sitsAt_8 (rfl : 8 + 1 = 9) ?_
  refine k_iconst (v := 1) dX3_sitsAt_9 (rfl : 9 + 1 = 10) (by decide) ?_
  refine k_iand dX3_sitsAt_10 (rfl : 10 + 1 = 11) ?_
  refine k_if_eq (tgt := 18) dX3_sitsAt_11 (rfl : 11 + 3 = 14) (by decide) (fun b11 => ?_) (fun b11 => ?_)
  · refine k_iconst (v := 0) dX3_sitsAt_18 (rfl : 18 + 1 = 19) (by decide) ?_
    refine k_iret rfl rfl dX3_sitsAt_19 (Nat.le_of_ble_eq_true rfl) (Nat.le_of_ble_eq_true rfl) ?_
    exact kRt_of (congrArg (fun z => some (Value.int z)) (Eq.symm (if_pos (show ((Int32.toUInt32 ((x.1 0).2.1 5) >>> (Int32.toUInt32 (a1 - a1 / 24 * 24) &&& Int32.toUInt32 31)).toInt32 &&& 1) = 0 from b11)))) rfl
  · refine k_iconst (v := 1) dX3_sitsAt_14 (rfl : 14 + 1 = 15) (by decide) ?_
    refine k_goto (tgt := 19) dX3_sitsAt_15 (by decide) ?_
    refine k_iret rfl rfl dX3_sitsAt_19 (Nat.le_of_ble_eq_true rfl) (Nat.le_of_ble_eq_true rfl) ?_
    exact kRt_of (congrArg (fun z => some (Value.int z)) (Eq.symm (if_neg (show ¬ (((Int32.toUInt32 ((x.1 0).2.1 5) >>> (Int32.toUInt32 (a1 - a1 / 24 * 24) &&& Int32.toUInt32 31)).toInt32 &&& 1) = 0) from b11)))) rfl
def f_X3_hasPlea (x : kK) (a1 : Int32) : Int32 := if a1 < 0 then 0 else (if ((x.1 0).2.1 6) ≤ a1 then 0 else 1)
set_option maxRecDepth 100000 in
set_option maxHeartbeats 4000000 in
theorem m_X3_hasPlea {x : kK} {r : kH} {a1 : Int32} : kMet kX3_hasPlea false 0 0 [.ref 4, .int a1] (kTp (kHc x) r) 130 (kRt (some (.int (f_X3_hasPlea x a1))) (kTp (kHc x) r) 130) := by
  refine kMet.in (by decide) rfl rfl _ rfl ?_
  refine k_iload_n (i := 1) dX3_hasPlea_0 (rfl : 0 + 1 = 1) rfl rfl ?_
  refine k_if_lt (tgt := 16) dX3_hasPlea_1 (rfl : 1 + 3 = 4) (by decide) (fun b1 => ?_) (fun b1 => ?_)
  · refine k_iconst (v := 0) dX3_hasPlea_16 (rfl : 16 + 1 = 17) (by decide) ?_
    refine k_iret rfl rfl dX3_hasPlea_17 (Nat.le_of_ble_eq_true rfl) (Nat.le_of_ble_eq_true rfl) ?_
    exact kRt_of (congrArg (fun z => some (Value.int z)) (Eq.symm (if_pos (show a1 < 0 from b1)))) rfl
  · refine k_iload_n (i := 1) dX3_hasPlea_4 (rfl : 4 + 1 = 5) rfl rfl ?_
    refine k_aload_n (i := 0) dX3_hasPlea_5 (rfl : 5 + 1 = 6) rfl rfl ?_
    refine k_get 3 2 fg_X3_29 dX3_hasPlea_6 (rfl : 6 + 3 = 9) (Nat.le_of_ble_eq_true rfl) rfl rfl ?_
    refine k_icmp_ge (tgt := 16) dX3_hasPlea_9 (rfl : 9 + 3 = 12) (by decide) (fun b9 => ?_) (fun b9 => ?_)
    · refine k_iconst (v := 0) dX3_hasPlea_16 (rfl : 16 + 1 = 17) (by decide) ?_
      refine k_iret rfl rfl dX3_hasPlea_17 (Nat.le_of_ble_eq_true rfl) (Nat.le_of_ble_eq_true rfl) ?_
      exact kRt_of (congrArg (fun z => some (Value.int z)) (Eq.symm (Eq.trans (if_neg (show ¬ (a1 < 0) from b1)) (if_pos (show ((x.1 0).2.1 6) ≤ a1 from b9))))) rfl
    · refine k_iconst (v := 1) dX3_hasPlea_12 (rfl : 12 + 1 = 13) (by decide) ?_
      refine k_goto (tgt := 17) dX3_hasPlea_13 (by decide) ?_
      refine k_iret rfl rfl dX3_hasPlea_17 (Nat.le_of_ble_eq_true rfl) (Nat.le_of_ble_eq_true rfl) ?_
      exact kRt_of (congrArg (fun z => some (Value.int z)) (Eq.symm (Eq.trans (if_neg (show ¬ (a1 < 0) from b1)) (if_neg (show ¬ (((x.1 0).2.1 6) ≤ a1) from b9))))) rfl
def f_X3_lastHour (x : kK) (a1 : Int32) : Int32 := ((((x.1 0).2.2 2) (Int32.toNatClampNeg a1)) + 24)
set_option maxRecDepth 100000 in
set_option maxHeartbeats 4000000 in
theorem m_X3_lastHour {x : kK} {r : kH} {a1 : Int32} (hb : vp_in a1 8) : kMet kX3_lastHour false 0 0 [.ref 4, .int a1] (kTp (kHc x) r) 130 (kRt (some (.int (f_X3_lastHour x a1))) (kTp (kHc x) r) 130) := by
  refine kMet.in (by decide) rfl rfl _ rfl ?_
  refine k_aload_n (i := 0) dX3_lastHour_0 (rfl : 0 + 1 = 1) rfl rfl ?_
  refine k_get 3 4 fg_X3_20 dX3_lastHour_1 (rfl : 1 + 3 = 4) (Nat.le_of_ble_eq_true rfl) rfl rfl ?_
  refine k_iload_n (i := 1) dX3_lastHour_4 (rfl : 4 + 1 = 5) rfl rfl ?_
  refine k_iald dX3_lastHour_5 (rfl : 5 + 1 = 6) (Nat.le_of_ble_eq_true rfl) rfl (by first | decide | assumption) ?_
  refine k_bipush (v := 24) dX3_lastHour_6 (rfl : 6 + 2 = 8) (by decide) ?_
  refine k_iadd dX3_lastHour_8 (rfl : 8 + 1 = 9) ?_
  refine k_iret rfl rfl dX3_lastHour_9 (Nat.le_of_ble_eq_true rfl) (Nat.le_of_ble_eq_true rfl) ?_
  exact kRt_of rfl rfl
def f_X3_canBeHeard (x : kK) (a1 : Int32) (a2 : Int32) : Int32 := if a2 < (((x.1 0).2.2 2) (Int32.toNatClampNeg a1)) then 0 else (if (f_X3_lastHour x a1) < a2 then 0 else (if (f_X3_sitsAt x a2) = 0 then 0 else 1))
set_option maxRecDepth 100000 in
set_option maxHeartbeats 4000000 in
theorem m_X3_canBeHeard {x : kK} {r : kH} {a1 : Int32} {a2 : Int32} (hb : vp_in a1 8) : kMet kX3_canBeHeard false 0 0 [.ref 4, .int a1, .int a2] (kTp (kHc x) r) 130 (kRt (some (.int (f_X3_canBeHeard x a1 a2))) (kTp (kHc x) r) 130) := by
  refine kMet.in (by decide) rfl rfl _ rfl ?_
  refine k_aload_n (i := 0) dX3_canBeHeard_0 (rfl : 0 + 1 = 1) rfl rfl ?_
  refine k_get 3 4 fg_X3_20 dX3_canBeHeard_1 (rfl : 1 + 3 = 4) (Nat.le_of_ble_eq_true rfl) rfl rfl ?_
  refine k_iload_n (i := 1) dX3_canBeHeard_4 (rfl : 4 + 1 = 5) rfl rfl ?_
  refine k_iald dX3_canBeHeard_5 (rfl : 5 + 1 = 6) (Nat.le_of_ble_eq_true rfl) rfl (by first | decide | assumption) ?_
  refine k_iload_n (i := 2) dX3_canBeHeard_6 (rfl : 6 + 1 = 7) rfl rfl ?_
  refine k_icmp_gt (tgt := 31) dX3_canBeHeard_7 (rfl : 7 + 3 = 10) (by decide) (fun b7 => ?_) (fun b7 => ?_)
  · refine k_iconst (v := 0) dX3_canBeHeard_31 (rfl : 31 + 1 = 32) (by decide) ?_
    refine k_iret rfl rfl dX3_canBeHeard_32 (Nat.le_of_ble_eq_true rfl) (Nat.le_of_ble_eq_true rfl) ?_
    exact kRt_of (congrArg (fun z => some (Value.int z)) (Eq.symm (if_pos (show a2 < (((x.1 0).2.2 2) (Int32.toNatClampNeg a1)) from b7)))) rfl
  · refine k_iload_n (i := 2) dX3_canBeHeard_10 (rfl : 10 + 1 = 11) rfl rfl ?_
    refine k_aload_n (i := 0) dX3_canBeHeard_11 (rfl : 11 + 1 = 12) rfl rfl ?_
    refine k_iload_n (i := 1) dX3_canBeHeard_12 (rfl : 12 + 1 = 13) rfl rfl ?_
    refine k_callVd1 cv_X3_38 ⟨Nat.le_of_ble_eq_true rfl, Nat.le_of_ble_eq_true rfl⟩ (m_X3_lastHour hb) dX3_canBeHeard_13 (rfl : 13 + 3 = 16) (Nat.le_of_ble_eq_true rfl) rfl rfl rfl ⟨Nat.le_of_ble_eq_true rfl, Nat.le_of_ble_eq_true rfl⟩ ?_
    refine k_icmp_gt (tgt := 31) dX3_canBeHeard_16 (rfl : 16 + 3 = 19) (by decide) (fun b16 => ?_) (fun b16 => ?_)
    · refine k_iconst (v := 0) dX3_canBeHeard_31 (rfl : 31 + 1 = 32) (by decide) ?_
      refine k_iret rfl rfl dX3_canBeHeard_32 (Nat.le_of_ble_eq_true rfl) (Nat.le_of_ble_eq_true rfl) ?_
      exact kRt_of (congrArg (fun z => some (Value.int z)) (Eq.symm (Eq.trans (if_neg (show ¬ (a2 < (((x.1 0).2.2 2) (Int32.toNatClampNeg a1))) from b7)) (if_pos (show (f_X3_lastHour x a1) < a2 from b16))))) rfl
    · refine k_aload_n (i := 0) dX3_canBeHeard_19 (rfl : 19 + 1 = 20) rfl rfl ?_
      refine k_iload_n (i := 2) dX3_canBeHeard_20 (rfl : 20 + 1 = 21) rfl rfl ?_
      refine k_callVd1 cv_X3_42 ⟨Nat.le_of_ble_eq_true rfl, Nat.le_of_ble_eq_true rfl⟩ (m_X3_sitsAt) dX3_canBeHeard_21 (rfl : 21 + 3 = 24) (Nat.le_of_ble_eq_true rfl) rfl rfl rfl ⟨Nat.le_of_ble_eq_true rfl, Nat.le_of_ble_eq_true rfl⟩ ?_
      refine k_if_eq (tgt := 31) dX3_canBeHeard_24 (rfl : 24 + 3 = 27) (by decide) (fun b24 => ?_) (fun b24 => ?_)
      · refine k_iconst (v := 0) dX3_canBeHeard_31 (rfl : 31 + 1 = 32) (by decide) ?_
        refine k_iret rfl rfl dX3_canBeHeard_32 (Nat.le_of_ble_eq_true rfl) (Nat.le_of_ble_eq_true rfl) ?_
        exact kRt_of (congrArg (fun z => some (Value.int z)) (Eq.symm (Eq.trans (if_neg (show ¬ (a2 < (((x.1 0).2.2 2) (Int32.toNatClampNeg a1))) from b7)) (Eq.trans (if_neg (show ¬ ((f_X3_lastHour x a1) < a2) from b16)) (if_pos (show (f_X3_sitsAt x a2) = 0 from b24)))))) rfl
      · refine k_iconst (v := 1) dX3_canBeHeard_27 (rfl : 27 + 1 = 28) (by decide) ?_
        refine k_goto (tgt := 32) dX3_canBeHeard_28 (by decide) ?_
        refine k_iret rfl rfl dX3_canBeHeard_32 (Nat.le_of_ble_eq_true rfl) (Nat.le_of_ble_eq_true rfl) ?_
        exact kRt_of (congrArg (fun z => some (Value.int z)) (Eq.symm (Eq.trans (if_neg (show ¬ (a2 < (((x.1 0).2.2 2) (Int32.toNatClampNeg a1))) from b7)) (Eq.trans (if_neg (show ¬ ((f_X3_lastHour x a1) < a2) from b16)) (if_neg (show ¬ ((f_X3_sitsAt x a2) = 0) from b24)))))) rfl
def f_X3_fineOf (x : kK) (a1 : Int32) : Int32 := ((3 * (((x.1 0).2.2 3) (Int32.toNatClampNeg a1))) + (((x.1 0).2.1 4) - (((x.1 0).2.2 2) (Int32.toNatClampNeg a1))))
set_option maxRecDepth 100000 in
set_option maxHeartbeats 4000000 in
theorem m_X3_fineOf {x : kK} {r : kH} {a1 : Int32} (hb : vp_in a1 8) : kMet kX3_fineOf false 0 0 [.ref 4, .int a1] (kTp (kHc x) r) 130 (kRt (some (.int (f_X3_fineOf x a1))) (kTp (kHc x) r) 130) := by
  refine kMet.in (by decide) rfl rfl _ rfl ?_
  refine k_iconst (v := 3) dX3_fineOf_0 (rfl : 0 + 1 = 1) (by decide) ?_
  refine k_aload_n (i := 0) dX3_fineOf_1 (rfl : 1 + 1 = 2) rfl rfl ?_
  refine k_get 3 5 fg_X3_23 dX3_fineOf_2 (rfl : 2 + 3 = 5) (Nat.le_of_ble_eq_true rfl) rfl rfl ?_
  refine k_iload_n (i := 1) dX3_fineOf_5 (rfl : 5 + 1 = 6) rfl rfl ?_
  refine k_iald dX3_fineOf_6 (rfl : 6 + 1 = 7) (Nat.le_of_ble_eq_true rfl) rfl (by first | decide | assumption) ?_
  refine k_imul dX3_fineOf_7 (rfl : 7 + 1 = 8) ?_
  refine k_aload_n (i := 0) dX3_fineOf_8 (rfl : 8 + 1 = 9) rfl rfl ?_
  refine k_get 3 0 fg_X3_26 dX3_fineOf_9 (rfl : 9 + 3 = 12) (Nat.le_of_ble_eq_true rfl) rfl rfl ?_
  refine k_aload_n (i := 0) dX3_fineOf_12 (rfl : 12 + 1 = 13) rfl rfl ?_
  refine k_get 3 4 fg_X3_20 dX3_fineOf_13 (rfl : 13 + 3 = 16) (Nat.le_of_ble_eq_true rfl) rfl rfl ?_
  refine k_iload_n (i := 1) dX3_fineOf_16 (rfl : 16 + 1 = 17) rfl rfl ?_
  refine k_iald dX3_fineOf_17 (rfl : 17 + 1 = 18) (Nat.le_of_ble_eq_true rfl) rfl (by first | decide | assumption) ?_
  refine k_isub dX3_fineOf_18 (rfl : 18 + 1 = 19) ?_
  refine k_iadd dX3_fineOf_19 (rfl : 19 + 1 = 20) ?_
  refine k_iret rfl rfl dX3_fineOf_20 (Nat.le_of_ble_eq_true rfl) (Nat.le_of_ble_eq_true rfl) ?_
  exact kRt_of rfl rfl
def g_X3_enterPlea (x : kK) (a1 : Int32) (a2 : Int32) (a3 : Int32) : kK := if 8 ≤ ((x.1 0).2.1 6) then x else (nS (nR (nR (nR x 1 (upd ((x.1 0).2.2 1) (Int32.toNatClampNeg ((x.1 0).2.1 6)) a1)) 2 (upd ((x.1 0).2.2 2) (Int32.toNatClampNeg ((x.1 0).2.1 6)) a2)) 3 (upd ((x.1 0).2.2 3) (Int32.toNatClampNeg ((x.1 0).2.1 6)) a3)) 6 (((x.1 0).2.1 6) + 1))
set_option maxRecDepth 100000 in
set_option maxHeartbeats 4000000 in
theorem m_X3_enterPlea {x : kK} {r : kH} {a1 : Int32} {a2 : Int32} {a3 : Int32} (iv : kIv (x.1 0)) : kMet kX3_enterPlea false 0 0 [.ref 4, .int a1, .int a2, .int a3] (kTp (kHc x) r) 130 (kRt (none) (kTp (kHc (g_X3_enterPlea x a1 a2 a3)) r) 130) := by
  refine kMet.in (by decide) rfl rfl _ rfl ?_
  refine k_aload_n (i := 0) dX3_enterPlea_0 (rfl : 0 + 1 = 1) rfl rfl ?_
  refine k_get 3 2 fg_X3_29 dX3_enterPlea_1 (rfl : 1 + 3 = 4) (Nat.le_of_ble_eq_true rfl) rfl rfl ?_
  refine k_bipush (v := 8) dX3_enterPlea_4 (rfl : 4 + 2 = 6) (by decide) ?_
  refine k_icmp_ge (tgt := 49) dX3_enterPlea_6 (rfl : 6 + 3 = 9) (by decide) (fun b6 => ?_) (fun b6 => ?_)
  · refine k_vret rfl dX3_enterPlea_49 (Nat.le_of_ble_eq_true rfl) (Nat.le_of_ble_eq_true rfl) ?_
    exact kRt_of rfl (congrArg (fun z => kTp (kHc z) r) (Eq.symm (if_pos (show 8 ≤ ((x.1 0).2.1 6) from b6))))
  · refine k_aload_n (i := 0) dX3_enterPlea_9 (rfl : 9 + 1 = 10) rfl rfl ?_
    refine k_get 3 3 fg_X3_16 dX3_enterPlea_10 (rfl : 10 + 3 = 13) (Nat.le_of_ble_eq_true rfl) rfl rfl ?_
    refine k_aload_n (i := 0) dX3_enterPlea_13 (rfl : 13 + 1 = 14) rfl rfl ?_
    refine k_get 3 2 fg_X3_29 dX3_enterPlea_14 (rfl : 14 + 3 = 17) (Nat.le_of_ble_eq_true rfl) rfl rfl ?_
    refine k_iload_n (i := 1) dX3_enterPlea_17 (rfl : 17 + 1 = 18) rfl rfl ?_
    refine k_iast dX3_enterPlea_18 (rfl : 18 + 1 = 19) (Nat.le_of_ble_eq_true rfl) rfl (kIv_pl iv b6) ?_
    refine kf_R1 (f := (upd ((x.1 0).2.2 1) (Int32.toNatClampNeg ((x.1 0).2.1 6)) a1)) rfl ?_
    refine k_aload_n (i := 0) dX3_enterPlea_19 (rfl : 19 + 1 = 20) rfl rfl ?_
    refine k_get 3 4 fg_X3_20 dX3_enterPlea_20 (rfl : 20 + 3 = 23) (Nat.le_of_ble_eq_true rfl) rfl rfl ?_
    refine k_aload_n (i := 0) dX3_enterPlea_23 (rfl : 23 + 1 = 24) rfl rfl ?_
    refine k_get 3 2 fg_X3_29 dX3_enterPlea_24 (rfl : 24 + 3 = 27) (Nat.le_of_ble_eq_true rfl) rfl rfl ?_
    refine k_iload_n (i := 2) dX3_enterPlea_27 (rfl : 27 + 1 = 28) rfl rfl ?_
    refine k_iast dX3_enterPlea_28 (rfl : 28 + 1 = 29) (Nat.le_of_ble_eq_true rfl) rfl (kIv_pl iv b6) ?_
    refine kf_R2 (f := (upd ((x.1 0).2.2 2) (Int32.toNatClampNeg ((x.1 0).2.1 6)) a2)) rfl ?_
    refine k_aload_n (i := 0) dX3_enterPlea_29 (rfl : 29 + 1 = 30) rfl rfl ?_
    refine k_get 3 5 fg_X3_23 dX3_enterPlea_30 (rfl : 30 + 3 = 33) (Nat.le_of_ble_eq_true rfl) rfl rfl ?_
    refine k_aload_n (i := 0) dX3_enterPlea_33 (rfl : 33 + 1 = 34) rfl rfl ?_
    refine k_get 3 2 fg_X3_29 dX3_enterPlea_34 (rfl : 34 + 3 = 37) (Nat.le_of_ble_eq_true rfl) rfl rfl ?_
    refine k_iload_n (i := 3) dX3_enterPlea_37 (rfl : 37 + 1 = 38) rfl rfl ?_
    refine k_iast dX3_enterPlea_38 (rfl : 38 + 1 = 39) (Nat.le_of_ble_eq_true rfl) rfl (kIv_pl iv b6) ?_
    refine kf_R3 (f := (upd ((x.1 0).2.2 3) (Int32.toNatClampNeg ((x.1 0).2.1 6)) a3)) rfl ?_
    refine k_aload_n (i := 0) dX3_enterPlea_39 (rfl : 39 + 1 = 40) rfl rfl ?_
    refine k_dup dX3_enterPlea_40 (rfl : 40 + 1 = 41) rfl ?_
    refine k_get 3 2 fg_X3_29 dX3_enterPlea_41 (rfl : 41 + 3 = 44) (Nat.le_of_ble_eq_true rfl) rfl rfl ?_
    refine k_iconst (v := 1) dX3_enterPlea_44 (rfl : 44 + 1 = 45) (by decide) ?_
    refine k_iadd dX3_enterPlea_45 (rfl : 45 + 1 = 46) ?_
    refine k_put 3 2 fp_X3_29 dX3_enterPlea_46 (rfl : 46 + 3 = 49) (Nat.le_of_ble_eq_true rfl) rfl (Nat.le_of_ble_eq_true rfl) rfl rfl ?_
    refine kf_S3 6 (v := (((x.1 0).2.1 6) + 1)) ⟨rfl, rfl⟩ rfl ?_
    refine k_vret rfl dX3_enterPlea_49 (Nat.le_of_ble_eq_true rfl) (Nat.le_of_ble_eq_true rfl) ?_
    exact kRt_of rfl (congrArg (fun z => kTp (kHc z) r) (Eq.symm (if_neg (show ¬ (8 ≤ ((x.1 0).2.1 6)) from b6))))
def g_X3_movePlea (x : kK) (a1 : Int32) (a2 : Int32) : kK := (nR (nR (nR x 1 (upd ((x.1 0).2.2 1) (Int32.toNatClampNeg a2) (((x.1 0).2.2 1) (Int32.toNatClampNeg a1)))) 2 (upd ((x.1 0).2.2 2) (Int32.toNatClampNeg a2) (((x.1 0).2.2 2) (Int32.toNatClampNeg a1)))) 3 (upd ((x.1 0).2.2 3) (Int32.toNatClampNeg a2) (((x.1 0).2.2 3) (Int32.toNatClampNeg a1))))
set_option maxRecDepth 100000 in
set_option maxHeartbeats 4000000 in
theorem m_X3_movePlea {x : kK} {r : kH} {a1 : Int32} {a2 : Int32} (ha : vp_in a1 8) (hb : vp_in a2 8) : kMet kX3_movePlea false 0 0 [.ref 4, .int a1, .int a2] (kTp (kHc x) r) 130 (kRt (none) (kTp (kHc (g_X3_movePlea x a1 a2)) r) 130) := by
  refine kMet.in (by decide) rfl rfl _ rfl ?_
  refine k_aload_n (i := 0) dX3_movePlea_0 (rfl : 0 + 1 = 1) rfl rfl ?_
  refine k_get 3 3 fg_X3_16 dX3_movePlea_1 (rfl : 1 + 3 = 4) (Nat.le_of_ble_eq_true rfl) rfl rfl ?_
  refine k_iload_n (i := 2) dX3_movePlea_4 (rfl : 4 + 1 = 5) rfl rfl ?_
  refine k_aload_n (i := 0) dX3_movePlea_5 (rfl : 5 + 1 = 6) rfl rfl ?_
  refine k_get 3 3 fg_X3_16 dX3_movePlea_6 (rfl : 6 + 3 = 9) (Nat.le_of_ble_eq_true rfl) rfl rfl ?_
  refine k_iload_n (i := 1) dX3_movePlea_9 (rfl : 9 + 1 = 10) rfl rfl ?_
  refine k_iald dX3_movePlea_10 (rfl : 10 + 1 = 11) (Nat.le_of_ble_eq_true rfl) rfl (by first | decide | assumption) ?_
  refine k_iast dX3_movePlea_11 (rfl : 11 + 1 = 12) (Nat.le_of_ble_eq_true rfl) rfl (by first | decide | assumption) ?_
  refine kf_R1 (f := (upd ((x.1 0).2.2 1) (Int32.toNatClampNeg a2) (((x.1 0).2.2 1) (Int32.toNatClampNeg a1)))) rfl ?_
  refine k_aload_n (i := 0) dX3_movePlea_12 (rfl : 12 + 1 = 13) rfl rfl ?_
  refine k_get 3 4 fg_X3_20 dX3_movePlea_13 (rfl : 13 + 3 = 16) (Nat.le_of_ble_eq_true rfl) rfl rfl ?_
  refine k_iload_n (i := 2) dX3_movePlea_16 (rfl : 16 + 1 = 17) rfl rfl ?_
  refine k_aload_n (i := 0) dX3_movePlea_17 (rfl : 17 + 1 = 18) rfl rfl ?_
  refine k_get 3 4 fg_X3_20 dX3_movePlea_18 (rfl : 18 + 3 = 21) (Nat.le_of_ble_eq_true rfl) rfl rfl ?_
  refine k_iload_n (i := 1) dX3_movePlea_21 (rfl : 21 + 1 = 22) rfl rfl ?_
  refine k_iald dX3_movePlea_22 (rfl : 22 + 1 = 23) (Nat.le_of_ble_eq_true rfl) rfl (by first | decide | assumption) ?_
  refine k_iast dX3_movePlea_23 (rfl : 23 + 1 = 24) (Nat.le_of_ble_eq_true rfl) rfl (by first | decide | assumption) ?_
  refine kf_R2 (f := (upd ((x.1 0).2.2 2) (Int32.toNatClampNeg a2) (((x.1 0).2.2 2) (Int32.toNatClampNeg a1)))) rfl ?_
  refine k_aload_n (i := 0) dX3_movePlea_24 (rfl : 24 + 1 = 25) rfl rfl ?_
  refine k_get 3 5 fg_X3_23 dX3_movePlea_25 (rfl : 25 + 3 = 28) (Nat.le_of_ble_eq_true rfl) rfl rfl ?_
  refine k_iload_n (i := 2) dX3_movePlea_28 (rfl : 28 + 1 = 29) rfl rfl ?_
  refine k_aload_n (i := 0) dX3_movePlea_29 (rfl : 29 + 1 = 30) rfl rfl ?_
  refine k_get 3 5 fg_X3_23 dX3_movePlea_30 (rfl : 30 + 3 = 33) (Nat.le_of_ble_eq_true rfl) rfl rfl ?_
  refine k_iload_n (i := 1) dX3_movePlea_33 (rfl : 33 + 1 = 34) rfl rfl ?_
  refine k_iald dX3_movePlea_34 (rfl : 34 + 1 = 35) (Nat.le_of_ble_eq_true rfl) rfl (by first | decide | assumption) ?_
  refine k_iast dX3_movePlea_35 (rfl : 35 + 1 = 36) (Nat.le_of_ble_eq_true rfl) rfl (by first | decide | assumption) ?_
  refine kf_R3 (f := (upd ((x.1 0).2.2 3) (Int32.toNatClampNeg a2) (((x.1 0).2.2 3) (Int32.toNatClampNeg a1)))) rfl ?_
  refine k_vret rfl dX3_movePlea_36 (Nat.le_of_ble_eq_true rfl) (Nat.le_of_ble_eq_true rfl) ?_
  exact kRt_of rfl rfl
def g_X7_enterThrow (x : kK) (a1 : Int32) (a2 : Int32) (a3 : Int32) : kK := if a3 = 0 then (nS (nS (nS (nS (nS x 8 (((x.1 0).2.1 8) - a1)) 10 (((x.1 0).2.1 10) + a1)) 12 (((x.1 0).2.1 12) + 1)) 14 (((x.1 0).2.1 14) + a2)) 7 (((x.1 0).2.1 7) - 1)) else (nS (nS (nS (nS (nS x 8 (((x.1 0).2.1 8) - a1)) 10 (((x.1 0).2.1 10) + a1)) 12 (((x.1 0).2.1 12) + 1)) 14 (((x.1 0).2.1 14) + a2)) 13 (((x.1 0).2.1 13) + 1))
set_option maxRecDepth 100000 in
set_option maxHeartbeats 4000000 in
theorem m_X7_enterThrow {x : kK} {r : kH} {a1 : Int32} {a2 : Int32} {a3 : Int32} : kMet kX7_enterThrow false 0 0 [.ref 8, .int a1, .int a2, .int a3] (kTp (kHc x) r) 130 (kRt (none) (kTp (kHc (g_X7_enterThrow x a1 a2 a3)) r) 130) := by
  refine kMet.in (by decide) rfl rfl _ rfl ?_
  refine k_aload_n (i := 0) dX7_enterThrow_0 (rfl : 0 + 1 = 1) rfl rfl ?_
  refine k_dup dX7_enterThrow_1 (rfl : 1 + 1 = 2) rfl ?_
  refine k_get 7 1 fg_X7_15 dX7_enterThrow_2 (rfl : 2 + 3 = 5) (Nat.le_of_ble_eq_true rfl) rfl rfl ?_
  refine k_iload_n (i := 1) dX7_enterThrow_5 (rfl : 5 + 1 = 6) rfl rfl ?_
  refine k_isub dX7_enterThrow_6 (rfl : 6 + 1 = 7) ?_
  refine k_put 7 1 fp_X7_15 dX7_enterThrow_7 (rfl : 7 + 3 = 10) (Nat.le_of_ble_eq_true rfl) rfl (Nat.le_of_ble_eq_true rfl) rfl rfl ?_
  refine kf_S7 8 (v := (((x.1 0).2.1 8) - a1)) rfl rfl ?_
  refine k_aload_n (i := 0) dX7_enterThrow_10 (rfl : 10 + 1 = 11) rfl rfl ?_
  refine k_dup dX7_enterThrow_11 (rfl : 11 + 1 = 12) rfl ?_
  refine k_get 7 3 fg_X7_25 dX7_enterThrow_12 (rfl : 12 + 3 = 15) (Nat.le_of_ble_eq_true rfl) rfl rfl ?_
  refine k_iload_n (i := 1) dX7_enterThrow_15 (rfl : 15 + 1 = 16) rfl rfl ?_
  refine k_iadd dX7_enterThrow_16 (rfl : 16 + 1 = 17) ?_
  refine k_put 7 3 fp_X7_25 dX7_enterThrow_17 (rfl : 17 + 3 = 20) (Nat.le_of_ble_eq_true rfl) rfl (Nat.le_of_ble_eq_true rfl) rfl rfl ?_
  refine kf_S7 10 (v := (((x.1 0).2.1 10) + a1)) rfl rfl ?_
  refine k_aload_n (i := 0) dX7_enterThrow_20 (rfl : 20 + 1 = 21) rfl rfl ?_
  refine k_dup dX7_enterThrow_21 (rfl : 21 + 1 = 22) rfl ?_
  refine k_get 7 5 fg_X7_31 dX7_enterThrow_22 (rfl : 22 + 3 = 25) (Nat.le_of_ble_eq_true rfl) rfl rfl ?_
  refine k_iconst (v := 1) dX7_enterThrow_25 (rfl : 25 + 1 = 26) (by decide) ?_
  refine k_iadd dX7_enterThrow_26 (rfl : 26 + 1 = 27) ?_
  refine k_put 7 5 fp_X7_31 dX7_enterThrow_27 (rfl : 27 + 3 = 30) (Nat.le_of_ble_eq_true rfl) rfl (Nat.le_of_ble_eq_true rfl) rfl rfl ?_
  refine kf_S7 12 (v := (((x.1 0).2.1 12) + 1)) rfl rfl ?_
  refine k_aload_n (i := 0) dX7_enterThrow_30 (rfl : 30 + 1 = 31) rfl rfl ?_
  refine k_dup dX7_enterThrow_31 (rfl : 31 + 1 = 32) rfl ?_
  refine k_get 7 7 fg_X7_37 dX7_enterThrow_32 (rfl : 32 + 3 = 35) (Nat.le_of_ble_eq_true rfl) rfl rfl ?_
  refine k_iload_n (i := 2) dX7_enterThrow_35 (rfl : 35 + 1 = 36) rfl rfl ?_
  refine k_iadd dX7_enterThrow_36 (rfl : 36 + 1 = 37) ?_
  refine k_put 7 7 fp_X7_37 dX7_enterThrow_37 (rfl : 37 + 3 = 40) (Nat.le_of_ble_eq_true rfl) rfl (Nat.le_of_ble_eq_true rfl) rfl rfl ?_
  refine kf_S7 14 (v := (((x.1 0).2.1 14) + a2)) rfl rfl ?_
  refine k_iload_n (i := 3) dX7_enterThrow_40 (rfl : 40 + 1 = 41) rfl rfl ?_
  refine k_if_eq (tgt := 57) dX7_enterThrow_41 (rfl : 41 + 3 = 44) (by decide) (fun b41 => ?_) (fun b41 => ?_)
  · refine k_aload_n (i := 0) dX7_enterThrow_57 (rfl : 57 + 1 = 58) rfl rfl ?_
    refine k_dup dX7_enterThrow_58 (rfl : 58 + 1 = 59) rfl ?_
    refine k_get 7 0 fg_X7_9 dX7_enterThrow_59 (rfl : 59 + 3 = 62) (Nat.le_of_ble_eq_true rfl) rfl rfl ?_
    refine k_iconst (v := 1) dX7_enterThrow_62 (rfl : 62 + 1 = 63) (by decide) ?_
    refine k_isub dX7_enterThrow_63 (rfl : 63 + 1 = 64) ?_
    refine k_put 7 0 fp_X7_9 dX7_enterThrow_64 (rfl : 64 + 3 = 67) (Nat.le_of_ble_eq_true rfl) rfl (Nat.le_of_ble_eq_true rfl) rfl rfl ?_
    refine kf_S7 7 (v := (((x.1 0).2.1 7) - 1)) rfl rfl ?_
    refine k_vret rfl dX7_enterThrow_67 (Nat.le_of_ble_eq_true rfl) (Nat.le_of_ble_eq_true rfl) ?_
    exact kRt_of rfl (congrArg (fun z => kTp (kHc z) r) (Eq.symm (if_pos (show a3 = 0 from b41))))
  · refine k_aload_n (i := 0) dX7_enterThrow_44 (rfl : 44 + 1 = 45) rfl rfl ?_
    refine k_dup dX7_enterThrow_45 (rfl : 45 + 1 = 46) rfl ?_
    refine k_get 7 6 fg_X7_34 dX7_enterThrow_46 (rfl : 46 + 3 = 49) (Nat.le_of_ble_eq_true rfl) rfl rfl ?_
    refine k_iconst (v := 1) dX7_enterThrow_49 (rfl : 49 + 1 = 50) (by decide) ?_
    refine k_iadd dX7_enterThrow_50 (rfl : 50 + 1 = 51) ?_
    refine k_put 7 6 fp_X7_34 dX7_enterThrow_51 (rfl : 51 + 3 = 54) (Nat.le_of_ble_eq_true rfl) rfl (Nat.le_of_ble_eq_true rfl) rfl rfl ?_
    refine kf_S7 13 (v := (((x.1 0).2.1 13) + 1)) rfl rfl ?_
    refine k_goto (tgt := 67) dX7_enterThrow_54 (by decide) ?_
    refine k_vret rfl dX7_enterThrow_67 (Nat.le_of_ble_eq_true rfl) (Nat.le_of_ble_eq_true rfl) ?_
    exact kRt_of rfl (congrArg (fun z => kTp (kHc z) r) (Eq.symm (if_neg (show ¬ (a3 = 0) from b41))))
set_option maxRecDepth 100000 in
set_option maxHeartbeats 4000000 in
theorem l_X3_pleaOf {x : kK} {r : kH} {c : Int32} {n : Nat} (hn : n ≤ 8) (en : (x.1 0).2.1 6 = nI n) : ∀ k (j : Nat), j + k = n →  kEv kX3_pleaOf (kRm kX3_pleaOf 0 0) (kFm false 0 0 (kRt (some (.int (pFind ((x.1 0).2.2 1) c k j))) (kTp (kHc x) r) 130)) false 2 [.ref 4, .int c, .int (nI j)] [] (kTp (kHc x) r) 130 0 0 := by
  intro k
  induction k with
  | zero =>
    intro j hj
    refine k_iload_n (i := 2) dX3_pleaOf_2 (rfl : 2 + 1 = 3) rfl rfl ?_
    refine k_aload_n (i := 0) dX3_pleaOf_3 (rfl : 3 + 1 = 4) rfl rfl ?_
    refine k_get 3 2 fg_X3_29 dX3_pleaOf_4 (rfl : 4 + 3 = 7) (Nat.le_of_ble_eq_true rfl) rfl rfl ?_
    refine k_icmp_ge (tgt := 28) dX3_pleaOf_7 (rfl : 7 + 3 = 10) (by decide) (fun b7 => ?_) (fun b7 => by exact absurd (nI_le (a := n) (b := j) (by omega) (by omega)) (by rw [en] at b7; exact b7))
    refine k_iconst (v := (-1)) dX3_pleaOf_28 (rfl : 28 + 1 = 29) (by decide) ?_
    refine k_iret rfl rfl dX3_pleaOf_29 (Nat.le_of_ble_eq_true rfl) (Nat.le_of_ble_eq_true rfl) ?_
    exact kRt_rfl
  | succ k ih =>
    intro j hj
    refine k_iload_n (i := 2) dX3_pleaOf_2 (rfl : 2 + 1 = 3) rfl rfl ?_
    refine k_aload_n (i := 0) dX3_pleaOf_3 (rfl : 3 + 1 = 4) rfl rfl ?_
    refine k_get 3 2 fg_X3_29 dX3_pleaOf_4 (rfl : 4 + 3 = 7) (Nat.le_of_ble_eq_true rfl) rfl rfl ?_
    refine k_icmp_ge (tgt := 28) dX3_pleaOf_7 (rfl : 7 + 3 = 10) (by decide) (fun b7 => by exact absurd (by rw [en] at b7; exact b7) (nI_ge (a := j) (b := n) (by omega) (by omega))) (fun b7 => ?_)
    refine k_aload_n (i := 0) dX3_pleaOf_10 (rfl : 10 + 1 = 11) rfl rfl ?_
    refine k_get 3 3 fg_X3_16 dX3_pleaOf_11 (rfl : 11 + 3 = 14) (Nat.le_of_ble_eq_true rfl) rfl rfl ?_
    refine k_iload_n (i := 2) dX3_pleaOf_14 (rfl : 14 + 1 = 15) rfl rfl ?_
    refine k_iald dX3_pleaOf_15 (rfl : 15 + 1 = 16) (Nat.le_of_ble_eq_true rfl) rfl (vp_in_nI (by omega) (by omega)) ?_
    refine k_iload_n (i := 1) dX3_pleaOf_16 (rfl : 16 + 1 = 17) rfl rfl ?_
    refine k_icmp_ne (tgt := 22) dX3_pleaOf_17 (rfl : 17 + 3 = 20) (by decide) (fun b17 => ?_) (fun b17 => ?_)
    · refine k_iinc (i := 2) (v := (nI (j + 1))) dX3_pleaOf_22 (rfl : 22 + 3 = 25) rfl (Nat.le_of_ble_eq_true rfl) (nI_1 _) ?_
      refine k_ls (ls2 := [.ref 4, .int c, .int (nI (j + 1))]) rfl ?_
      refine k_goto (tgt := 2) dX3_pleaOf_25 (by decide) ?_
      refine Eq.mp ?_ (ih (j + 1) (by omega))
      rw [pFind, if_neg (by rw [nI_clamp (by omega)] at b17; exact b17)]
    · refine k_iload_n (i := 2) dX3_pleaOf_20 (rfl : 20 + 1 = 21) rfl rfl ?_
      refine k_iret rfl rfl dX3_pleaOf_21 (Nat.le_of_ble_eq_true rfl) (Nat.le_of_ble_eq_true rfl) ?_
      refine kRt_of (kRi ?_) rfl
      rw [pFind, if_pos]
      exact (by rw [nI_clamp (by omega)] at b17; exact b17)
set_option maxRecDepth 100000 in
set_option maxHeartbeats 4000000 in
theorem m_X3_pleaOf {x : kK} {r : kH} (iv : kIv (x.1 0)) {c : Int32} : kMet kX3_pleaOf false 0 0 [.ref 4, .int c] (kTp (kHc x) r) 130 (kRt (some (.int (pFind ((x.1 0).2.2 1) c (Int32.toNatClampNeg ((x.1 0).2.1 6)) 0))) (kTp (kHc x) r) 130) := by
  refine kMet.in (by decide) rfl rfl _ rfl ?_
  refine k_iconst (v := 0) dX3_pleaOf_0 (rfl : 0 + 1 = 1) (by decide) ?_
  refine k_istore_n (i := 2) dX3_pleaOf_1 (rfl : 1 + 1 = 2) rfl (Nat.le_of_ble_eq_true rfl) ?_
  obtain ⟨n, hn, en⟩ := iv.2.1
  rw [en, nI_clamp (by omega)]
  exact l_X3_pleaOf hn en n 0 (by omega)
/-- pleas from j + 1 on, k of them, one place forward -/
def skL (x : kK) : Nat → Nat → kK
  | 0, _ => x
  | k + 1, j => skL (g_X3_movePlea x (nI (j + 1)) (nI (j + 1) - 1)) k (j + 1)
def g_X3_strike (x : kK) (a : Int32) : kK := nS (skL x (((x.1 0).2.1 6).toNatClampNeg - (a.toNatClampNeg + 1)) a.toNatClampNeg) 6 ((x.1 0).2.1 6 - 1)
theorem skL_n {k : Nat} : ∀ {x : kK} {j : Nat}, ((skL x k j).1 0).2.1 = (x.1 0).2.1 := by
  induction k with
  | zero => intro x j; rfl
  | succ k ih => intro x j; rw [skL, ih]; rfl
set_option maxRecDepth 100000 in
set_option maxHeartbeats 4000000 in
theorem l_X3_strike {r : kH} {a : Int32} {n : Nat} {Q : kQ} (hn : n ≤ 8) : ∀ k (j : Nat) (x : kK), j + 1 + k = n → (x.1 0).2.1 6 = nI n → kEv kX3_strike (kRm kX3_strike 0 0) (kFm false 0 0 (Q)) false 26 [.ref 4, .int a, .int (nI n)] [] (kTp (kHc (skL x k j)) r) 130 0 0 →  kEv kX3_strike (kRm kX3_strike 0 0) (kFm false 0 0 (Q)) false 4 [.ref 4, .int a, .int (nI (j + 1))] [] (kTp (kHc x) r) 130 0 0 := by
  intro k
  induction k with
  | zero =>
    intro j x hj en hx
    refine k_iload_n (i := 2) dX3_strike_4 (rfl : 4 + 1 = 5) rfl rfl ?_
    refine k_aload_n (i := 0) dX3_strike_5 (rfl : 5 + 1 = 6) rfl rfl ?_
    refine k_get 3 2 fg_X3_29 dX3_strike_6 (rfl : 6 + 3 = 9) (Nat.le_of_ble_eq_true rfl) rfl rfl ?_
    refine k_icmp_ge (tgt := 26) dX3_strike_9 (rfl : 9 + 3 = 12) (by decide) (fun b9 => ?_) (fun b9 => by exact absurd (nI_le (a := n) (b := j + 1) (by omega) (by omega)) (by rw [en] at b9; exact b9))
    obtain rfl : n = j + 1 := by omega
    exact hx
  | succ k ih =>
    intro j x hj en hx
    refine k_iload_n (i := 2) dX3_strike_4 (rfl : 4 + 1 = 5) rfl rfl ?_
    refine k_aload_n (i := 0) dX3_strike_5 (rfl : 5 + 1 = 6) rfl rfl ?_
    refine k_get 3 2 fg_X3_29 dX3_strike_6 (rfl : 6 + 3 = 9) (Nat.le_of_ble_eq_true rfl) rfl rfl ?_
    refine k_icmp_ge (tgt := 26) dX3_strike_9 (rfl : 9 + 3 = 12) (by decide) (fun b9 => by exact absurd (by rw [en] at b9; exact b9) (nI_ge (a := j + 1) (b := n) (by omega) (by omega))) (fun b9 => ?_)
    refine k_aload_n (i := 0) dX3_strike_12 (rfl : 12 + 1 = 13) rfl rfl ?_
    refine k_iload_n (i := 2) dX3_strike_13 (rfl : 13 + 1 = 14) rfl rfl ?_
    refine k_iload_n (i := 2) dX3_strike_14 (rfl : 14 + 1 = 15) rfl rfl ?_
    refine k_iconst (v := 1) dX3_strike_15 (rfl : 15 + 1 = 16) (by decide) ?_
    refine k_isub dX3_strike_16 (rfl : 16 + 1 = 17) ?_
    refine k_callVv2 cv_X3_46 ⟨Nat.le_of_ble_eq_true rfl, Nat.le_of_ble_eq_true rfl⟩ (m_X3_movePlea (vp_in_nI (by omega) (by omega)) (by rw [nI_pred]; exact vp_in_nI (by omega) (by omega))) dX3_strike_17 (rfl : 17 + 3 = 20) (Nat.le_of_ble_eq_true rfl) rfl rfl rfl ⟨Nat.le_of_ble_eq_true rfl, Nat.le_of_ble_eq_true rfl⟩ ?_
    refine k_iinc (i := 2) (v := (nI (j + 1 + 1))) dX3_strike_20 (rfl : 20 + 3 = 23) rfl (Nat.le_of_ble_eq_true rfl) (nI_1 _) ?_
    refine k_ls (ls2 := [.ref 4, .int a, .int (nI (j + 1 + 1))]) rfl ?_
    refine k_goto (tgt := 4) dX3_strike_23 (by decide) ?_
    exact ih (j + 1) _ (by omega) en hx
set_option maxRecDepth 100000 in
set_option maxHeartbeats 4000000 in
theorem m_X3_strike {x : kK} {r : kH} {l n : Nat} (hl : l < n) (hn : n ≤ 8) (en : (x.1 0).2.1 6 = nI n) : kMet kX3_strike false 0 0 [.ref 4, .int (nI l)] (kTp (kHc x) r) 130 (kRt none (kTp (kHc (g_X3_strike x (nI l))) r) 130) := by
  refine kMet.in (by decide) rfl rfl _ rfl ?_
  refine k_iload_n (i := 1) dX3_strike_0 (rfl : 0 + 1 = 1) rfl rfl ?_
  refine k_iconst (v := 1) dX3_strike_1 (rfl : 1 + 1 = 2) (by decide) ?_
  refine k_iadd dX3_strike_2 (rfl : 2 + 1 = 3) ?_
  refine k_istore_n (i := 2) dX3_strike_3 (rfl : 3 + 1 = 4) rfl (Nat.le_of_ble_eq_true rfl) ?_
  refine k_ls (ls2 := [.ref 4, .int (nI l), .int (nI (l + 1))]) (by rw [← nI_1]; rfl) ?_
  refine l_X3_strike hn (n - (l + 1)) l x (by omega) en ?_
  have e2 : ((skL x (n - (l + 1)) l).1 0).2.1 6 = (x.1 0).2.1 6 := by rw [skL_n]
  refine k_aload_n (i := 0) dX3_strike_26 (rfl : 26 + 1 = 27) rfl rfl ?_
  refine k_dup dX3_strike_27 (rfl : 27 + 1 = 28) rfl ?_
  refine k_get 3 2 fg_X3_29 dX3_strike_28 (rfl : 28 + 3 = 31) (Nat.le_of_ble_eq_true rfl) rfl rfl ?_
  refine k_iconst (v := 1) dX3_strike_31 (rfl : 31 + 1 = 32) (by decide) ?_
  refine k_isub dX3_strike_32 (rfl : 32 + 1 = 33) ?_
  refine k_put 3 2 fp_X3_29 dX3_strike_33 (rfl : 33 + 3 = 36) (Nat.le_of_ble_eq_true rfl) rfl (Nat.le_of_ble_eq_true rfl) rfl rfl ?_
  refine kf_S3 6 (v := ((((skL x (n - (l + 1)) l).1 0).2.1 6) - 1)) ⟨rfl, rfl⟩ rfl ?_
  refine k_vret rfl dX3_strike_36 (Nat.le_of_ble_eq_true rfl) (Nat.le_of_ble_eq_true rfl) ?_
  refine kRt_of rfl ?_
  unfold g_X3_strike
  rw [en, nI_clamp (by omega), nI_clamp (by omega), ← en]
  rw [show (kkC (skL x (n - (l + 1)) l) 0 (cS ((skL x (n - (l + 1)) l).1 0) 6 (((skL x (n - (l + 1)) l).1 0).2.1 6 - 1))) = nS (skL x (n - (l + 1)) l) 6 (((skL x (n - (l + 1)) l).1 0).2.1 6 - 1) from rfl, e2]
/-- the pleas from j on, k of them: those that go on are moved to the places from p on -/
def phL (hr : Int32) : Nat → kK → Nat → Nat → kK × Nat
  | 0, x, _, p => (x, p)
  | k + 1, x, j, p => if f_X3_lastHour x (nI j) < hr then phL hr k x (j + 1) p else phL hr k (g_X3_movePlea x (nI j) (nI p)) (j + 1) (p + 1)
def fg_X3_passHour (x : kK) : kK × Nat := phL ((x.1 0).2.1 4 + 1) ((x.1 0).2.1 6).toNatClampNeg (nS x 4 ((x.1 0).2.1 4 + 1)) 0 0
def f_X3_passHour (x : kK) : Int32 := (x.1 0).2.1 6 - nI (fg_X3_passHour x).2
def g_X3_passHour (x : kK) : kK := nS (fg_X3_passHour x).1 6 (nI (fg_X3_passHour x).2)
theorem phL_n {hr : Int32} {k : Nat} : ∀ {x : kK} {j p : Nat}, ((phL hr k x j p).1.1 0).2.1 = (x.1 0).2.1 := by
  induction k with
  | zero => intro x j p; rfl
  | succ k ih =>
    intro x j p
    rw [phL]
    split
    · exact ih
    · rw [ih]; rfl
theorem phL_le {hr : Int32} {k : Nat} : ∀ {x : kK} {j p : Nat}, (phL hr k x j p).2 ≤ p + k := by
  induction k with
  | zero => intro x j p; exact Nat.le_refl _
  | succ k ih =>
    intro x j p
    rw [phL]
    split
    · exact Nat.le_trans ih (by omega)
    · exact Nat.le_trans ih (by omega)
set_option maxRecDepth 100000 in
set_option maxHeartbeats 4000000 in
theorem l_X3_passHour {r : kH} {n : Nat} {Q : kQ} {hr : Int32} (hn : n ≤ 8) : ∀ k (j p : Nat) (x : kK), p ≤ j → j + k = n → (x.1 0).2.1 6 = nI n → (x.1 0).2.1 4 = hr → kEv kX3_passHour (kRm kX3_passHour 0 0) (kFm false 0 0 (Q)) false 49 [.ref 4, .int (nI (phL hr k x j p).2), .int (nI n)] [] (kTp (kHc (phL hr k x j p).1) r) 130 0 0 →  kEv kX3_passHour (kRm kX3_passHour 0 0) (kFm false 0 0 (Q)) false 14 [.ref 4, .int (nI p), .int (nI j)] [] (kTp (kHc x) r) 130 0 0 := by
  intro k
  induction k with
  | zero =>
    intro j p x hp hj en eh hx
    refine k_iload_n (i := 2) dX3_passHour_14 (rfl : 14 + 1 = 15) rfl rfl ?_
    refine k_aload_n (i := 0) dX3_passHour_15 (rfl : 15 + 1 = 16) rfl rfl ?_
    refine k_get 3 2 fg_X3_29 dX3_passHour_16 (rfl : 16 + 3 = 19) (Nat.le_of_ble_eq_true rfl) rfl rfl ?_
    refine k_icmp_ge (tgt := 49) dX3_passHour_19 (rfl : 19 + 3 = 22) (by decide) (fun b19 => ?_) (fun b19 => by exact absurd (nI_le (a := n) (b := j) (by omega) (by omega)) (by rw [en] at b19; exact b19))
    obtain rfl : n = j := by omega
    exact hx
  | succ k ih =>
    intro j p x hp hj en eh hx
    refine k_iload_n (i := 2) dX3_passHour_14 (rfl : 14 + 1 = 15) rfl rfl ?_
    refine k_aload_n (i := 0) dX3_passHour_15 (rfl : 15 + 1 = 16) rfl rfl ?_
    refine k_get 3 2 fg_X3_29 dX3_passHour_16 (rfl : 16 + 3 = 19) (Nat.le_of_ble_eq_true rfl) rfl rfl ?_
    refine k_icmp_ge (tgt := 49) dX3_passHour_19 (rfl : 19 + 3 = 22) (by decide) (fun b19 => by exact absurd (by rw [en] at b19; exact b19) (nI_ge (a := j) (b := n) (by omega) (by omega))) (fun b19 => ?_)
    refine k_aload_n (i := 0) dX3_passHour_22 (rfl : 22 + 1 = 23) rfl rfl ?_
    refine k_iload_n (i := 2) dX3_passHour_23 (rfl : 23 + 1 = 24) rfl rfl ?_
    refine k_callVd1 cv_X3_38 ⟨Nat.le_of_ble_eq_true rfl, Nat.le_of_ble_eq_true rfl⟩ (m_X3_lastHour (vp_in_nI (by omega) (by omega))) dX3_passHour_24 (rfl : 24 + 3 = 27) (Nat.le_of_ble_eq_true rfl) rfl rfl rfl ⟨Nat.le_of_ble_eq_true rfl, Nat.le_of_ble_eq_true rfl⟩ ?_
    refine k_aload_n (i := 0) dX3_passHour_27 (rfl : 27 + 1 = 28) rfl rfl ?_
    refine k_get 3 0 fg_X3_26 dX3_passHour_28 (rfl : 28 + 3 = 31) (Nat.le_of_ble_eq_true rfl) rfl rfl ?_
    refine k_icmp_lt (tgt := 43) dX3_passHour_31 (rfl : 31 + 3 = 34) (by decide) (fun b31 => ?_) (fun b31 => ?_)
    · refine k_iinc (i := 2) (v := (nI (j + 1))) dX3_passHour_43 (rfl : 43 + 3 = 46) rfl (Nat.le_of_ble_eq_true rfl) (nI_1 _) ?_
      refine k_ls (ls2 := [.ref 4, .int (nI p), .int (nI (j + 1))]) rfl ?_
      refine k_goto (tgt := 14) dX3_passHour_46 (by decide) ?_
      rw [phL] at hx
      first
        | (rw [if_pos (by rw [← eh]; exact b31)] at hx; exact ih (j + 1) _ _ (by omega) (by omega) en eh hx)
        | (rw [if_neg (by rw [← eh]; exact b31)] at hx; exact ih (j + 1) _ _ (by omega) (by omega) en eh hx)
    · refine k_aload_n (i := 0) dX3_passHour_34 (rfl : 34 + 1 = 35) rfl rfl ?_
      refine k_iload_n (i := 2) dX3_passHour_35 (rfl : 35 + 1 = 36) rfl rfl ?_
      refine k_iload_n (i := 1) dX3_passHour_36 (rfl : 36 + 1 = 37) rfl rfl ?_
      refine k_callVv2 cv_X3_46 ⟨Nat.le_of_ble_eq_true rfl, Nat.le_of_ble_eq_true rfl⟩ (m_X3_movePlea (vp_in_nI (by omega) (by omega)) (vp_in_nI (by omega) (by omega))) dX3_passHour_37 (rfl : 37 + 3 = 40) (Nat.le_of_ble_eq_true rfl) rfl rfl rfl ⟨Nat.le_of_ble_eq_true rfl, Nat.le_of_ble_eq_true rfl⟩ ?_
      refine k_iinc (i := 1) (v := (nI (p + 1))) dX3_passHour_40 (rfl : 40 + 3 = 43) rfl (Nat.le_of_ble_eq_true rfl) (nI_1 _) ?_
      refine k_ls (ls2 := [.ref 4, .int (nI (p + 1)), .int (nI j)]) rfl ?_
      refine k_iinc (i := 2) (v := (nI (j + 1))) dX3_passHour_43 (rfl : 43 + 3 = 46) rfl (Nat.le_of_ble_eq_true rfl) (nI_1 _) ?_
      refine k_ls (ls2 := [.ref 4, .int (nI (p + 1)), .int (nI (j + 1))]) rfl ?_
      refine k_goto (tgt := 14) dX3_passHour_46 (by decide) ?_
      rw [phL] at hx
      first
        | (rw [if_pos (by rw [← eh]; exact b31)] at hx; exact ih (j + 1) _ _ (by omega) (by omega) en eh hx)
        | (rw [if_neg (by rw [← eh]; exact b31)] at hx; exact ih (j + 1) _ _ (by omega) (by omega) en eh hx)
set_option maxRecDepth 100000 in
set_option maxHeartbeats 4000000 in
theorem m_X3_passHour {x : kK} {r : kH} (iv : kIv (x.1 0)) : kMet kX3_passHour false 0 0 [.ref 4] (kTp (kHc x) r) 130 (kRt (some (.int (f_X3_passHour x))) (kTp (kHc (g_X3_passHour x)) r) 130) := by
  obtain ⟨n, hn, en⟩ := iv.2.1
  refine kMet.in (by decide) rfl rfl _ rfl ?_
  refine k_aload_n (i := 0) dX3_passHour_0 (rfl : 0 + 1 = 1) rfl rfl ?_
  refine k_dup dX3_passHour_1 (rfl : 1 + 1 = 2) rfl ?_
  refine k_get 3 0 fg_X3_26 dX3_passHour_2 (rfl : 2 + 3 = 5) (Nat.le_of_ble_eq_true rfl) rfl rfl ?_
  refine k_iconst (v := 1) dX3_passHour_5 (rfl : 5 + 1 = 6) (by decide) ?_
  refine k_iadd dX3_passHour_6 (rfl : 6 + 1 = 7) ?_
  refine k_put 3 0 fp_X3_26 dX3_passHour_7 (rfl : 7 + 3 = 10) (Nat.le_of_ble_eq_true rfl) rfl (Nat.le_of_ble_eq_true rfl) rfl rfl ?_
  refine kf_S3 4 (v := (((x.1 0).2.1 4) + 1)) ⟨rfl, rfl⟩ rfl ?_
  refine k_iconst (v := 0) dX3_passHour_10 (rfl : 10 + 1 = 11) (by decide) ?_
  refine k_istore_n (i := 1) dX3_passHour_11 (rfl : 11 + 1 = 12) rfl (Nat.le_of_ble_eq_true rfl) ?_
  refine k_ls (ls2 := [.ref 4, .int 0, .retAddr 0]) rfl ?_
  refine k_iconst (v := 0) dX3_passHour_12 (rfl : 12 + 1 = 13) (by decide) ?_
  refine k_istore_n (i := 2) dX3_passHour_13 (rfl : 13 + 1 = 14) rfl (Nat.le_of_ble_eq_true rfl) ?_
  refine k_ls (ls2 := [.ref 4, .int 0, .int 0]) rfl ?_
  refine l_X3_passHour (hr := (x.1 0).2.1 4 + 1) hn n 0 0 (nS x 4 ((x.1 0).2.1 4 + 1)) (Nat.le_refl _) (by omega) en rfl ?_
  have e1 : fg_X3_passHour x = phL ((x.1 0).2.1 4 + 1) n (nS x 4 ((x.1 0).2.1 4 + 1)) 0 0 := by unfold fg_X3_passHour; rw [en, nI_clamp (by omega)]
  generalize hy : phL ((x.1 0).2.1 4 + 1) n (nS x 4 ((x.1 0).2.1 4 + 1)) 0 0 = y at e1 ⊢
  have e2 : (y.1.1 0).2.1 6 = (x.1 0).2.1 6 := by rw [← hy, phL_n]; rfl
  refine k_aload_n (i := 0) dX3_passHour_49 (rfl : 49 + 1 = 50) rfl rfl ?_
  refine k_get 3 2 fg_X3_29 dX3_passHour_50 (rfl : 50 + 3 = 53) (Nat.le_of_ble_eq_true rfl) rfl rfl ?_
  refine k_iload_n (i := 1) dX3_passHour_53 (rfl : 53 + 1 = 54) rfl rfl ?_
  refine k_isub dX3_passHour_54 (rfl : 54 + 1 = 55) ?_
  refine k_istore_n (i := 2) dX3_passHour_55 (rfl : 55 + 1 = 56) rfl (Nat.le_of_ble_eq_true rfl) ?_
  refine k_ls (ls2 := [.ref 4, .int (nI y.2), .int (((y.1.1 0).2.1 6) - (nI y.2))]) rfl ?_
  refine k_aload_n (i := 0) dX3_passHour_56 (rfl : 56 + 1 = 57) rfl rfl ?_
  refine k_iload_n (i := 1) dX3_passHour_57 (rfl : 57 + 1 = 58) rfl rfl ?_
  refine k_put 3 2 fp_X3_29 dX3_passHour_58 (rfl : 58 + 3 = 61) (Nat.le_of_ble_eq_true rfl) rfl (Nat.le_of_ble_eq_true rfl) rfl rfl ?_
  refine kf_S3 6 (v := (nI y.2)) ⟨rfl, rfl⟩ rfl ?_
  refine k_iload_n (i := 2) dX3_passHour_61 (rfl : 61 + 1 = 62) rfl rfl ?_
  refine k_iret rfl rfl dX3_passHour_62 (Nat.le_of_ble_eq_true rfl) (Nat.le_of_ble_eq_true rfl) ?_
  refine kRt_of (kRi ?_) ?_
  · unfold f_X3_passHour; rw [e1, ← e2]
  · unfold g_X3_passHour; rw [e1]; rfl
