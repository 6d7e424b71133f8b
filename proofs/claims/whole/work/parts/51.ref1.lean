/-- the reference's state v -/
def kMv (v : Nat → Int32) : Prop := (∃ n, n ≤ 8 ∧ v 6 = nI n) ∧ (∃ n, n ≤ 8 ∧ v 7 = nI n) ∧ (∃ n, n < 64 ∧ v 3 = nI n) ∧ (∃ n, n < 8 ∧ v 4 = nI n) ∧ (∃ n, n ≤ 3 ∧ v 5 = nI n) ∧ (∀ p, p < 8 → ∃ n, n < 64 ∧ v (76 + 2 * p) = nI n)
def kC64 (a : Int32) : Prop := ∃ n, n < 64 ∧ a = nI n
def kP8 (a : Int32) : Prop := ∃ n, n < 8 ∧ a = nI n
theorem c64_in {a : Int32} (h : kC64 a) : vp_in (12 + a) 116 := by
  obtain ⟨n, hn, rfl⟩ := h
  rw [show (12 : Int32) + nI n = nI (12 + n) from nI_add 12 n]
  exact vp_in_nI (by omega) (by omega)
theorem p8_cell {a : Int32} (h : kP8 a) : vp_in (76 + 2 * a) 116 ∧ ∃ n, n < 8 ∧ a = nI n ∧ Int32.toNatClampNeg (76 + 2 * a) = 76 + 2 * n := by
  obtain ⟨n, hn, rfl⟩ := h
  have h2 : ∀ n, n < 8 → (76 : Int32) + 2 * nI n = nI (76 + 2 * n) := by decide
  rw [h2 n hn, nI_clamp (by omega)]
  exact ⟨vp_in_nI (by omega) (by omega), n, hn, rfl, rfl⟩
theorem mv_n {v : Nat → Int32} (h : kMv v) : (v 6).toNatClampNeg ≤ 8 := by
  obtain ⟨n, hn, e⟩ := h.1
  rw [e, nI_clamp (by omega)]
  exact hn
theorem mv_p {v : Nat → Int32} (h : kMv v) : (v 7).toNatClampNeg ≤ 8 := by
  obtain ⟨n, hn, e⟩ := h.2.1
  rw [e, nI_clamp (by omega)]
  exact hn
def f_X12_fail (x : kY) (a1 : Int32) : Int32 := 0
def g_X12_fail (x : kY) (a1 : Int32) : kY := (yS x 0 a1)
set_option maxRecDepth 100000 in
set_option maxHeartbeats 4000000 in
theorem m_X12_fail {x : kY} {a9 : kH} {z9 : kE × kE} {a1 : Int32} : kMet kX12_fail false 0 0 [.ref 116, .int a1] (kTp a9 (kHr x z9)) 130 (kRt (some (.int (f_X12_fail x a1))) (kTp a9 (kHr (g_X12_fail x a1) z9)) 130) := by
  refine kMet.in (by decide) rfl rfl _ rfl ?_
  refine k_aload_n (i := 0) dX12_fail_0 (rfl : 0 + 1 = 1) rfl rfl ?_
  refine k_iload_n (i := 1) dX12_fail_1 (rfl : 1 + 1 = 2) rfl rfl ?_
  refine k_put 12 0 fp_X12_50 dX12_fail_2 (rfl : 2 + 3 = 5) (Nat.le_of_ble_eq_true rfl) rfl (Nat.le_of_ble_eq_true rfl) rfl rfl ?_
  refine kf_Y0 (v := a1) rfl ?_
  refine k_iconst (v := 0) dX12_fail_5 (rfl : 5 + 1 = 6) (by decide) ?_
  refine k_iret rfl rfl dX12_fail_6 (Nat.le_of_ble_eq_true rfl) (Nat.le_of_ble_eq_true rfl) ?_
  exact kRt_of rfl rfl
def f_X12_refuses (x : kY) (a1 : Int32) (a2 : Int32) (a3 : Int32) : Int32 := (f_X12_fail (yS (yS x 4 a2) 5 a3) a1)
def g_X12_refuses (x : kY) (a1 : Int32) (a2 : Int32) (a3 : Int32) : kY := (g_X12_fail (yS (yS x 4 a2) 5 a3) a1)
set_option maxRecDepth 100000 in
set_option maxHeartbeats 4000000 in
theorem m_X12_refuses {x : kY} {a9 : kH} {z9 : kE × kE} {a1 : Int32} {a2 : Int32} {a3 : Int32} : kMet kX12_refuses false 0 0 [.ref 116, .int a1, .int a2, .int a3] (kTp a9 (kHr x z9)) 130 (kRt (some (.int (f_X12_refuses x a1 a2 a3))) (kTp a9 (kHr (g_X12_refuses x a1 a2 a3) z9)) 130) := by
  refine kMet.in (by decide) rfl rfl _ rfl ?_
  refine k_aload_n (i := 0) dX12_refuses_0 (rfl : 0 + 1 = 1) rfl rfl ?_
  refine k_iload_n (i := 2) dX12_refuses_1 (rfl : 1 + 1 = 2) rfl rfl ?_
  refine k_put 12 4 fp_X12_53 dX12_refuses_2 (rfl : 2 + 3 = 5) (Nat.le_of_ble_eq_true rfl) rfl (Nat.le_of_ble_eq_true rfl) rfl rfl ?_
  refine kf_Y4 (v := a2) rfl ?_
  refine k_aload_n (i := 0) dX12_refuses_5 (rfl : 5 + 1 = 6) rfl rfl ?_
  refine k_iload_n (i := 3) dX12_refuses_6 (rfl : 6 + 1 = 7) rfl rfl ?_
  refine k_put 12 5 fp_X12_56 dX12_refuses_7 (rfl : 7 + 3 = 10) (Nat.le_of_ble_eq_true rfl) rfl (Nat.le_of_ble_eq_true rfl) rfl rfl ?_
  refine kf_Y5 (v := a3) rfl ?_
  refine k_aload_n (i := 0) dX12_refuses_10 (rfl : 10 + 1 = 11) rfl rfl ?_
  refine k_iload_n (i := 1) dX12_refuses_11 (rfl : 11 + 1 = 12) rfl rfl ?_
  refine k_callVd1 cv_X12_59 ⟨Nat.le_of_ble_eq_true rfl, Nat.le_of_ble_eq_true rfl⟩ (m_X12_fail) dX12_refuses_12 (rfl : 12 + 3 = 15) (Nat.le_of_ble_eq_true rfl) rfl rfl rfl ⟨Nat.le_of_ble_eq_true rfl, Nat.le_of_ble_eq_true rfl⟩ ?_
  refine k_iret rfl rfl dX12_refuses_15 (Nat.le_of_ble_eq_true rfl) (Nat.le_of_ble_eq_true rfl) ?_
  exact kRt_of rfl rfl
def f_X12_isIn (a1 : Int32) (a2 : Int32) (a3 : Int32) : Int32 := if a1 < a2 then 0 else (if a3 < a1 then 0 else 1)
set_option maxRecDepth 100000 in
set_option maxHeartbeats 4000000 in
theorem m_X12_isIn {h : kH} {N : Nat} {a1 : Int32} {a2 : Int32} {a3 : Int32} : kMet kX12_isIn false 0 0 [.int a1, .int a2, .int a3] h N (kRt (some (.int (f_X12_isIn a1 a2 a3))) h N) := by
  refine kMet.in (by decide) rfl rfl _ rfl ?_
  refine k_iload_n (i := 0) dX12_isIn_0 (rfl : 0 + 1 = 1) rfl rfl ?_
  refine k_iload_n (i := 1) dX12_isIn_1 (rfl : 1 + 1 = 2) rfl rfl ?_
  refine k_icmp_lt (tgt := 14) dX12_isIn_2 (rfl : 2 + 3 = 5) (by decide) (fun b2 => ?_) (fun b2 => ?_)
  · refine k_iconst (v := 0) dX12_isIn_14 (rfl : 14 + 1 = 15) (by decide) ?_
    refine k_iret rfl rfl dX12_isIn_15 (Nat.le_of_ble_eq_true rfl) (Nat.le_of_ble_eq_true rfl) ?_
    exact kRt_of (congrArg (fun z => some (Value.int z)) (Eq.symm (if_pos (show a1 < a2 from b2)))) rfl
  · refine k_iload_n (i := 0) dX12_isIn_5 (rfl : 5 + 1 = 6) rfl rfl ?_
    refine k_iload_n (i := 2) dX12_isIn_6 (rfl : 6 + 1 = 7) rfl rfl ?_
    refine k_icmp_gt (tgt := 14) dX12_isIn_7 (rfl : 7 + 3 = 10) (by decide) (fun b7 => ?_) (fun b7 => ?_)
    · refine k_iconst (v := 0) dX12_isIn_14 (rfl : 14 + 1 = 15) (by decide) ?_
      refine k_iret rfl rfl dX12_isIn_15 (Nat.le_of_ble_eq_true rfl) (Nat.le_of_ble_eq_true rfl) ?_
      exact kRt_of (congrArg (fun z => some (Value.int z)) (Eq.symm (Eq.trans (if_neg (show ¬ (a1 < a2) from b2)) (if_pos (show a3 < a1 from b7))))) rfl
    · refine k_iconst (v := 1) dX12_isIn_10 (rfl : 10 + 1 = 11) (by decide) ?_
      refine k_goto (tgt := 15) dX12_isIn_11 (by decide) ?_
      refine k_iret rfl rfl dX12_isIn_15 (Nat.le_of_ble_eq_true rfl) (Nat.le_of_ble_eq_true rfl) ?_
      exact kRt_of (congrArg (fun z => some (Value.int z)) (Eq.symm (Eq.trans (if_neg (show ¬ (a1 < a2) from b2)) (if_neg (show ¬ (a3 < a1) from b7))))) rfl
def f_X12_isCell (a1 : Int32) (a2 : Int32) : Int32 := if (f_X12_isIn a1 0 7) = 0 then 0 else (if (f_X12_isIn a2 0 7) = 0 then 0 else 1)
set_option maxRecDepth 100000 in
set_option maxHeartbeats 4000000 in
theorem m_X12_isCell {h : kH} {N : Nat} {a1 : Int32} {a2 : Int32} : kMet kX12_isCell false 0 0 [.int a1, .int a2] h N (kRt (some (.int (f_X12_isCell a1 a2))) h N) := by
  refine kMet.in (by decide) rfl rfl _ rfl ?_
  refine k_iload_n (i := 0) dX12_isCell_0 (rfl : 0 + 1 = 1) rfl rfl ?_
  refine k_iconst (v := 0) dX12_isCell_1 (rfl : 1 + 1 = 2) (by decide) ?_
  refine k_bipush (v := 7) dX12_isCell_2 (rfl : 2 + 2 = 4) (by decide) ?_
  refine k_callSd3 cv_X12_70 ⟨Nat.le_of_ble_eq_true rfl, Nat.le_of_ble_eq_true rfl⟩ (m_X12_isIn) dX12_isCell_4 (rfl : 4 + 3 = 7) rfl ⟨Nat.le_of_ble_eq_true rfl, Nat.le_of_ble_eq_true rfl⟩ ?_
  refine k_if_eq (tgt := 24) dX12_isCell_7 (rfl : 7 + 3 = 10) (by decide) (fun b7 => ?_) (fun b7 => ?_)
  · refine k_iconst (v := 0) dX12_isCell_24 (rfl : 24 + 1 = 25) (by decide) ?_
    refine k_iret rfl rfl dX12_isCell_25 (Nat.le_of_ble_eq_true rfl) (Nat.le_of_ble_eq_true rfl) ?_
    exact kRt_of (congrArg (fun z => some (Value.int z)) (Eq.symm (if_pos (show (f_X12_isIn a1 0 7) = 0 from b7)))) rfl
  · refine k_iload_n (i := 1) dX12_isCell_10 (rfl : 10 + 1 = 11) rfl rfl ?_
    refine k_iconst (v := 0) dX12_isCell_11 (rfl : 11 + 1 = 12) (by decide) ?_
    refine k_bipush (v := 7) dX12_isCell_12 (rfl : 12 + 2 = 14) (by decide) ?_
    refine k_callSd3 cv_X12_70 ⟨Nat.le_of_ble_eq_true rfl, Nat.le_of_ble_eq_true rfl⟩ (m_X12_isIn) dX12_isCell_14 (rfl : 14 + 3 = 17) rfl ⟨Nat.le_of_ble_eq_true rfl, Nat.le_of_ble_eq_true rfl⟩ ?_
    refine k_if_eq (tgt := 24) dX12_isCell_17 (rfl : 17 + 3 = 20) (by decide) (fun b17 => ?_) (fun b17 => ?_)
    · refine k_iconst (v := 0) dX12_isCell_24 (rfl : 24 + 1 = 25) (by decide) ?_
      refine k_iret rfl rfl dX12_isCell_25 (Nat.le_of_ble_eq_true rfl) (Nat.le_of_ble_eq_true rfl) ?_
      exact kRt_of (congrArg (fun z => some (Value.int z)) (Eq.symm (Eq.trans (if_neg (show ¬ ((f_X12_isIn a1 0 7) = 0) from b7)) (if_pos (show (f_X12_isIn a2 0 7) = 0 from b17))))) rfl
    · refine k_iconst (v := 1) dX12_isCell_20 (rfl : 20 + 1 = 21) (by decide) ?_
      refine k_goto (tgt := 25) dX12_isCell_21 (by decide) ?_
      refine k_iret rfl rfl dX12_isCell_25 (Nat.le_of_ble_eq_true rfl) (Nat.le_of_ble_eq_true rfl) ?_
      exact kRt_of (congrArg (fun z => some (Value.int z)) (Eq.symm (Eq.trans (if_neg (show ¬ ((f_X12_isIn a1 0 7) = 0) from b7)) (if_neg (show ¬ ((f_X12_isIn a2 0 7) = 0) from b17))))) rfl
def f_X12_arm (a1 : Int32) : Int32 := (1 + ((a1 / 8) - (a1 / 8) / 4 * 4))
set_option maxRecDepth 100000 in
set_option maxHeartbeats 4000000 in
theorem m_X12_arm {h : kH} {N : Nat} {a1 : Int32} : kMet kX12_arm false 0 0 [.int a1] h N (kRt (some (.int (f_X12_arm a1))) h N) := by
  refine kMet.in (by decide) rfl rfl _ rfl ?_
  refine k_iconst (v := 1) dX12_arm_0 (rfl : 0 + 1 = 1) (by decide) ?_
  refine k_iload_n (i := 0) dX12_arm_1 (rfl : 1 + 1 = 2) rfl rfl ?_
  refine k_bipush (v := 8) dX12_arm_2 (rfl : 2 + 2 = 4) (by decide) ?_
  refine k_idiv dX12_arm_4 (rfl : 4 + 1 = 5) (by decide) ?_
  refine k_iconst (v := 4) dX12_arm_5 (rfl : 5 + 1 = 6) (by decide) ?_
  refine k_irem dX12_arm_6 (rfl : 6 + 1 = 7) (by decide) ?_
  refine k_iadd dX12_arm_7 (rfl : 7 + 1 = 8) ?_
  refine k_iret rfl rfl dX12_arm_8 (Nat.le_of_ble_eq_true rfl) (Nat.le_of_ble_eq_true rfl) ?_
  exact kRt_of rfl rfl
def f_X12_pleaAt (a1 : Int32) (a2 : Int32) : Int32 := ((92 + (3 * a1)) + a2)
set_option maxRecDepth 100000 in
set_option maxHeartbeats 4000000 in
theorem m_X12_pleaAt {h : kH} {N : Nat} {a1 : Int32} {a2 : Int32} : kMet kX12_pleaAt false 0 0 [.int a1, .int a2] h N (kRt (some (.int (f_X12_pleaAt a1 a2))) h N) := by
  refine kMet.in (by decide) rfl rfl _ rfl ?_
  refine k_bipush (v := 92) dX12_pleaAt_0 (rfl : 0 + 2 = 2) (by decide) ?_
  refine k_iconst (v := 3) dX12_pleaAt_2 (rfl : 2 + 1 = 3) (by decide) ?_
  refine k_iload_n (i := 0) dX12_pleaAt_3 (rfl : 3 + 1 = 4) rfl rfl ?_
  refine k_imul dX12_pleaAt_4 (rfl : 4 + 1 = 5) ?_
  refine k_iadd dX12_pleaAt_5 (rfl : 5 + 1 = 6) ?_
  refine k_iload_n (i := 1) dX12_pleaAt_6 (rfl : 6 + 1 = 7) rfl rfl ?_
  refine k_iadd dX12_pleaAt_7 (rfl : 7 + 1 = 8) ?_
  refine k_iret rfl rfl dX12_pleaAt_8 (Nat.le_of_ble_eq_true rfl) (Nat.le_of_ble_eq_true rfl) ?_
  exact kRt_of rfl rfl
def f_X12_thrown (x : kY)  : Int32 := (x.1 0)
set_option maxRecDepth 100000 in
set_option maxHeartbeats 4000000 in
theorem m_X12_thrown {x : kY} {a9 : kH} {z9 : kE × kE} : kMet kX12_thrown false 0 0 [.ref 116] (kTp a9 (kHr x z9)) 130 (kRt (some (.int (f_X12_thrown x ))) (kTp a9 (kHr x z9)) 130) := by
  refine kMet.in (by decide) rfl rfl _ rfl ?_
  refine k_aload_n (i := 0) dX12_thrown_0 (rfl : 0 + 1 = 1) rfl rfl ?_
  refine k_get 12 0 fg_X12_50 dX12_thrown_1 (rfl : 1 + 3 = 4) (Nat.le_of_ble_eq_true rfl) rfl rfl ?_
  refine k_iret rfl rfl dX12_thrown_4 (Nat.le_of_ble_eq_true rfl) (Nat.le_of_ble_eq_true rfl) ?_
  exact kRt_of rfl rfl
/-- the first n of g, then f -/
def cpR (n : Nat) (f g : Nat → Int32) : Nat → Int32 := fun j => if j < n then g j else f j
set_option maxRecDepth 100000 in
set_option maxHeartbeats 4000000 in
theorem l_X12_lays {N i i2 : Nat} {f g : Nat → Int32} {h : kH} {Q : kQ} (hi : i < N) (hi2 : i2 < N) (hne : i2 ≠ i) (he2 : h i2 = kI 116 g) (hQ : Q (.inl none) (kU h i (kI 116 g)) N) : ∀ (k j : Nat), j + k = 116 → kEv kX12_lays (kRm kX12_lays 0 0) (kFm false 0 0 (Q)) false 2 [.ref i, .ref i2, .int (nI j)] [] (kU h i (kI 116 (cpR j f g))) N 0 0 := by
  intro k
  induction k with
  | zero =>
    intro j hj
    obtain rfl : j = 116 := by omega
    refine k_iload_n (i := 2) dX12_lays_2 (rfl : 2 + 1 = 3) rfl rfl ?_
    refine k_bipush (v := 116) dX12_lays_3 (rfl : 3 + 2 = 5) (by decide) ?_
    refine k_icmp_ge (tgt := 20) dX12_lays_5 (rfl : 5 + 3 = 8) (by decide) (fun b7 => ?_) (fun b7 => by exact absurd (nI_le (a := 116) (b := 116) (by omega) (by omega)) b7)
    refine k_alike (h' := kU h i (kI 116 g)) (fun q _ => ?_) ?_
    · by_cases hq : q = i
      · subst hq
        rw [kU_s, kU_s]
        exact Or.inr ⟨0, 116, _, _, rfl, rfl, fun j hj => if_pos hj⟩
      · rw [kU_n hq, kU_n hq]
        exact Or.inl rfl
    refine k_vret rfl dX12_lays_20 (Nat.le_of_ble_eq_true rfl) (Nat.le_of_ble_eq_true rfl) ?_
    exact hQ
  | succ k ih =>
    intro j hj
    refine k_iload_n (i := 2) dX12_lays_2 (rfl : 2 + 1 = 3) rfl rfl ?_
    refine k_bipush (v := 116) dX12_lays_3 (rfl : 3 + 2 = 5) (by decide) ?_
    refine k_icmp_ge (tgt := 20) dX12_lays_5 (rfl : 5 + 3 = 8) (by decide) (fun b7 => by exact absurd b7 (nI_ge (a := j) (b := 116) (by omega) (by omega))) (fun b7 => ?_)
    refine k_aload_n (i := 0) dX12_lays_8 (rfl : 8 + 1 = 9) rfl rfl ?_
    refine k_iload_n (i := 2) dX12_lays_9 (rfl : 9 + 1 = 10) rfl rfl ?_
    refine k_aload_n (i := 1) dX12_lays_10 (rfl : 10 + 1 = 11) rfl rfl ?_
    refine k_iload_n (i := 2) dX12_lays_11 (rfl : 11 + 1 = 12) rfl rfl ?_
    refine k_iald (f := g) dX12_lays_12 (rfl : 12 + 1 = 13) hi2 ((kU_n hne).trans he2) (vp_in_nI (by omega) (by omega)) ?_
    refine k_iast (n := 116) (f := cpR j f g) dX12_lays_13 (rfl : 13 + 1 = 14) hi kU_s (vp_in_nI (by omega) (by omega)) ?_
    refine k_iinc (i := 2) (v := nI (j + 1)) dX12_lays_14 (rfl : 14 + 3 = 17) rfl (Nat.le_of_ble_eq_true rfl) (nI_1 _) ?_
    refine k_ls (ls2 := [.ref i, .ref i2, .int (nI (j + 1))]) rfl ?_
    refine k_goto (tgt := 2) dX12_lays_17 (by decide) ?_
    rw [kU_kU, show upd (cpR j f g) (nI j).toNatClampNeg (g (nI j).toNatClampNeg) = cpR (j + 1) f g from ?_]
    · exact ih (j + 1) (by omega)
    · rw [nI_clamp (by omega)]
      funext q
      unfold upd cpR
      by_cases h1 : q = j
      · subst h1; simp
      · by_cases h2 : q < j
        · simp [h1, h2, show q < j + 1 by omega]
        · simp [h1, h2, show ¬ q < j + 1 by omega]
set_option maxRecDepth 100000 in
set_option maxHeartbeats 4000000 in
theorem m_X12_lays {N i i2 : Nat} {f g : Nat → Int32} {h : kH} (hi : i < N) (hi2 : i2 < N) (hne : i2 ≠ i) (he : h i = kI 116 f) (he2 : h i2 = kI 116 g) : kMet kX12_lays false 0 0 [.ref i, .ref i2] h N (kRt none (kU h i (kI 116 g)) N) := by
  refine kMet.in (by decide) rfl rfl _ rfl ?_
  refine k_iconst (v := 0) dX12_lays_0 (rfl : 0 + 1 = 1) (by decide) ?_
  refine k_istore_n (i := 2) dX12_lays_1 (rfl : 1 + 1 = 2) rfl (Nat.le_of_ble_eq_true rfl) ?_
  refine k_ls (ls2 := [.ref i, .ref i2, .int (nI 0)]) rfl ?_
  have e0 : kU h i (kI 116 (cpR 0 f g)) = h := kU_self he
  have q := fun (Q : kQ) hQ => l_X12_lays (Q := Q) (f := f) (g := g) (h := h) hi hi2 hne he2 hQ 116 0 (by omega)
  rw [e0] at q
  exact q _ kRt_rfl
