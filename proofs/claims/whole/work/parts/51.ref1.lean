/-- the reference's state v -/
def kMv (v : Nat → Int32) : Prop := (∃ n, n ≤ 8 ∧ v 6 = nI n) ∧ (∃ n, n ≤ 8 ∧ v 7 = nI n) ∧ (∃ n, n < 64 ∧ v 3 = nI n) ∧ (∃ n, n < 8 ∧ v 4 = nI n) ∧ (∃ n, n ≤ 3 ∧ v 5 = nI n) ∧ (∀ p, p < 8 → ∃ n, n < 64 ∧ v (76 + 2 * p) = nI n)
def kC64 (a : Int32) : Prop := ∃ n, n < 64 ∧ a = nI n
def kP8 (a : Int32) : Prop := ∃ n, n < 8 ∧ a = nI n
theorem c64_in {a : Int32} (h : kC64 a) : vp_in (12 + a) 116 := by
  obtain ⟨n, hn, rfl⟩ := h
  rw [show (12 : Int32) + nI n = nI (12 + n) from nI_add 12 n]
  exact vp_in_nI (by omega) (by omega)
theorem p8_cell {a : Int32} (h : kP8 a) : vp_in (76 + 2 * a) 116 ∧ ∃ n, n < 8 ∧ a = nI n ∧ Int32.toNatClampNeg (76 + 2 * a) = 76 + 2 * n := by
  obtain ⟨n, hn, rfl⟩ := h
  have h2 : ∀ n, n < 8 → (76 : Int32) + 2 * nI n = nI (76 + 2 * n) := by decide
  rw [h2 n hn, nI_clamp (by omega)]
  exact ⟨vp_in_nI (by omega) (by omega), n, hn, rfl, rfl⟩
theorem mv_n {v : Nat → Int32} (h : kMv v) : (v 6).toNatClampNeg ≤ 8 := by
  obtain ⟨n, hn, e⟩ := h.1
  rw [e, nI_clamp (by omega)]
  exact hn
theorem mv_p {v : Nat → Int32} (h : kMv v) : (v 7).toNatClampNeg ≤ 8 := by
  obtain ⟨n, hn, e⟩ := h.2.1
  rw [e, nI_clamp (by omega)]
  exact hn
def f_X12_fail (x : kY) (a1 : Int32) : Int32 := 0
def g_X12_fail (x : kY) (a1 : Int32) : kY := (yS x 0 a1)
set_option maxRecDepth 100000 in
set_option maxHeartbeats 4000000 in
theorem m_X12_fail {x : kY} {a9 : kH} {z9 : kE × kE} {a1 : Int32} : kMet kX12_fail false 0 0 [.ref 116, .int a1] (kTp a9 (kHr x z9)) 130 (kRt (some (.int (f_X12_fail x a1))) (kTp a9 (kHr (g_X12_fail x a1) z9)) 130) := by
  refine kMet.in (by decide) rfl rfl _ rfl ?_
  refine k_aload_n (i := 0) dX12_fail_0 (rfl : 0 + 1 = 1) rfl rfl ?_
  refine k_iload_n (i := 1) dX12_fail_1 (rfl : 1 + 1 = 2) rfl rfl ?_
  refine k_put 12 0 fp_X12_50 dX12_fail_2 (rfl : 2 + 3 = 5) (Nat.le_of_ble_eq_true rfl) rfl (Nat.le_of_ble_eq_true rfl) rfl rfl ?_
  refine kf_Y0 (v := a1) rfl ?_
  refine k_iconst (v := 0) dX12_fail_5 (rfl : 5 + 1 = 6) (by decide) ?_
  refine k_iret rfl rfl dX12_fail_6 (Nat.le_of_ble_eq_true rfl) (Nat.le_of_ble_eq_true rfl) ?_
  exact kRt_of rfl rfl
def f_X12_refuses (x : kY) (a1 : Int32) (a2 : Int32) (a3 : Int32) : Int32 := (f_X12_fail (yS (yS x 4 a2) 5 a3) a1)
def g_X12_refuses (x : kY) (a1 : Int32) (a2 : Int32) (a3 : Int32) : kY := (g_X12_fail (yS (yS x 4 a2) 5 a3) a1)
set_option maxRecDepth 100000 in
set_option maxHeartbeats 4000000 in
theorem m_X12_refuses {x : kY} {a9 : kH} {z9 : kE × kE} {a1 : Int32} {a2 : Int32} {a3 : Int32} : kMet kX12_refuses false 0 0 [.ref 116, .int a1, .int a2, .int a3] (kTp a9 (kHr x z9)) 130 (kRt (some (.int (f_X12_refuses x a1 a2 a3))) (kTp a9 (kHr (g_X12_refuses x a1 a2 a3) z9)) 130) := by
  refine kMet.in (by decide) rfl rfl _ rfl ?_
  refine k_aload_n (i := 0) dX12_refuses_0 (rfl : 0 + 1 = 1) rfl rfl ?_
  refine k_iload_n (i := 2) dX12_refuses_1 (rfl : 1 + 1 = 2) rfl rfl ?_
  refine k_put 12 4 fp_X12_53 dX12_refuses_2 (rfl : 2 + 3 = 5) (Nat.le_of_ble_eq_true rfl) rfl (Nat.le_of_ble_eq_true rfl) rfl rfl ?_
  refine kf_Y4 (v := a2) rfl ?_
  refine k_aload_n (i := 0) dX12_refuses_5 (rfl : 5 + 1 = 6) rfl rfl ?_
  refine k_iload_n (i := 3) dX12_refuses_6 (rfl : 6 + 1 = 7) rfl rfl ?_
  refine k_put 12 5 fp_X12_56 dX12_refuses_7 (rfl : 7 + 3 = 10) (Nat.le_of_ble_eq_true rfl) rfl (Nat.le_of_ble_eq_true rfl) rfl rfl ?_
  refine kf_Y5 (v := a3) rfl ?_
  refine k_aload_n (i := 0) dX12_refuses_10 (rfl : 10 + 1 = 11) rfl rfl ?_
  refine k_iload_n (i := 1) dX12_refuses_11 (rfl : 11 + 1 = 12) rfl rfl ?_
  refine k_callVd1 cv_X12_59 ⟨Nat.le_of_ble_eq_true rfl, Nat.le_of_ble_eq_true rfl⟩ (m_X12_fail) dX12_refuses_12 (rfl : 12 + 3 = 15) (Nat.le_of_ble_eq_true rfl) rfl rfl rfl ⟨Nat.le_of_ble_eq_true rfl, Nat.le_of_ble_eq_true rfl⟩ ?_
  refine k_iret rfl rfl dX12_refuses_15 (Nat.le_of_ble_eq_true rfl) (Nat.le_of_ble_eq_true rfl) ?_
  exact kRt_of rfl rfl
def f_X12_isIn (a1 : Int32) (a2 : Int32) (a3 : Int32) : Int32 := if a1 < a2 then 0 else (if a3 < a1 then 0 else 1)
set_option maxRecDepth 100000 in
set_option maxHeartbeats 4000000 in
theorem m_X12_isIn {h : kH} {N : Nat} {a1 : Int32} {a2 : Int32} {a3 : Int32} : kMet kX12_isIn false 0 0 [.int a1, .int a2, .int a3] h N (kRt (some (.int (f_X12_isIn a1 a2 a3))) h N) := by
  refine kMet.in (by decide) rfl rfl _ rfl ?_
  refine k_iload_n (i := 0) dX12_isIn_0 (rfl : 0 + 1 = 1) rfl rfl ?_
  refine k_iload_n (i := 1) dX12_isIn_1 (rfl : 1 + 1 = 2) rfl rfl ?_
  refine k_icmp_lt (tgt := 14) dX12_isIn_2 (rfl : 2 + 3 = 5) (by decide) (fun b2 => ?_) (fun b2 => ?_)
  · refine k_iconst (v := 0) dX12_isIn_14 (rfl : 14 + 1 = 15) (by decide) ?_
    refine k_iret rfl rfl dX12_isIn_15 (Nat.le_of_ble_eq_true rfl) (Nat.le_of_ble_eq_true rfl) ?_
    exact kRt_of (congrArg (fun z => some (Value.int z)) (Eq.symm (if_pos (show a1 < a2 from b2)))) rfl
  · refine k_iload_n (i := 0) dX12_isIn_5 (rfl : 5 + 1 = 6) rfl rfl ?_
    refine k_iload_n (i := 2) dX12_isIn_6 (rfl : 6 + 1 = 7) rfl rfl ?_
    refine k_icmp_gt (tgt := 14) dX12_isIn_7 (rfl : 7 + 3 = 10) (by decide) (fun b7 => ?_) (fun b7 => ?_)
    · refine k_iconst (v := 0) dX12_isIn_14 (rfl : 14 + 1 = 15) (by decide) ?_
      refine k_iret rfl rfl dX12_isIn_15 (Nat.le_of_ble_eq_true rfl) (Nat.le_of_ble_eq_true rfl) ?_
      exact kRt_of (congrArg (fun z => some (Value.int z)) (Eq.symm (Eq.trans (if_neg (show ¬ (a1 < a2) from b2)) (if_pos (show a3 < a1 from b7))))) rfl
    · refine k_iconst (v := 1) dX12_isIn_10 (rfl : 10 + 1 = 11) (by decide) ?_
      refine k_goto (tgt := 15) dX12_isIn_11 (by decide) ?_
      refine k_iret rfl rfl dX12_isIn_15 (Nat.le_of_ble_eq_true rfl) (Nat.le_of_ble_eq_true rfl) ?_
      exact kRt_of (congrArg (fun z => some (Value.int z)) (Eq.symm (Eq.trans (if_neg (show ¬ (a1 < a2) from b2)) (if_neg (show ¬ (a3 < a1) from b7))))) rfl
def f_X12_isCell (a1 : Int32) (a2 : Int32) : Int32 := if (f_X12_isIn a1 0 7) = 0 then 0 else (if (f_X12_isIn a2 0 7) = 0 then 0 else 1)
set_option maxRecDepth 100000 in
set_option maxHeartbeats 4000000 in
theorem m_X12_isCell {h : kH} {N : Nat} {a1 : Int32} {a2 : Int32} : kMet kX12_isCell false 0 0 [.int a1, .int a2] h N (kRt (some (.int (f_X12_isCell a1 a2))) h N) := by
  refine kMet.in (by decide) rfl rfl _ rfl ?_
  refine k_iload_n (i := 0) dX12_isCell_0 (rfl : 0 + 1 = 1) rfl rfl ?_
  refine k_iconst (v := 0) dX12_isCell_1 (rfl : 1 + 1 = 2) (by decide) ?_
  refine k_bipush (v := 7) dX12_isCell_2 (rfl : 2 + 2 = 4) (by decide) ?_
  refine k_callSd3 cv_X12_70 ⟨Nat.le_of_ble_eq_true rfl, Nat.le_of_ble_eq_true rfl⟩ (m_X12_isIn) dX12_isCell_4 (rfl : 4 + 3 = 7) rfl ⟨Nat.le_of_ble_eq_true rfl, Nat.le_of_ble_eq_true rfl⟩ ?_
  refine k_if_eq (tgt := 24) dX12_isCell_7 (rfl : 7 + 3 = 10) (by decide) (fun b7 => ?_) (fun b7 => ?_)
  · refine k_iconst (v := 0) dX12_isCell_24 (rfl : 24 + 1 = 25) (by decide) ?_
    refine k_iret rfl rfl dX12_isCell_25 (Nat.le_of_ble_eq_true rfl) (Nat.le_of_ble_eq_true rfl) ?_
    exact kRt_of (congrArg (fun z => some (Value.int z)) (Eq.symm (if_pos (show (f_X12_isIn a1 0 7) = 0 from b7)))) rfl
  · refine k_iload_n (i := 1) dX12_isCell_10 (rfl : 10 + 1 = 11) rfl rfl ?_
    refine k_iconst (v := 0) dX12_isCell_11 (rfl : 11 + 1 = 12) (by decide) ?_
    refine k_bipush (v := 7) dX12_isCell_12 (rfl : 12 + 2 = 14) (by decide) ?_
    refine k_callSd3 cv_X12_70 ⟨Nat.le_of_ble_eq_true rfl, Nat.le_of_ble_eq_true rfl⟩ (m_X12_isIn) dX12_isCell_14 (rfl : 14 + 3 = 17) rfl ⟨Nat.le_of_ble_eq_true rfl, Nat.le_of_ble_eq_true rfl⟩ ?_
    refine k_if_eq (tgt := 24) dX12_isCell_17 (rfl : 17 + 3 = 20) (by decide) (fun b17 => ?_) (fun b17 => ?_)
    · refine k_iconst (v := 0) dX12_isCell_24 (rfl : 24 + 1 = 25) (by decide) ?_
      refine k_iret rfl rfl dX12_isCell_25 (Nat.le_of_ble_eq_true rfl) (Nat.le_of_ble_eq_true rfl) ?_
      exact kRt_of (congrArg (fun z => some (Value.int z)) (Eq.symm (Eq.trans (if_neg (show ¬ ((f_X12_isIn a1 0 7) = 0) from b7)) (if_pos (show (f_X12_isIn a2 0 7) = 0 from b17))))) rfl
    · refine k_iconst (v := 1) dX12_isCell_20 (rfl : 20 + 1 = 21) (by decide) ?_
      refine k_goto (tgt := 25) dX12_isCell_21 (by decide) ?_
      refine k_iret rfl rfl dX12_isCell_25 (Nat.le_of_ble_eq_true rfl) (Nat.le_of_ble_eq_true rfl) ?_
      exact kRt_of (congrArg (fun z => some (Value.int z)) (Eq.symm (Eq.trans (if_neg (show ¬ ((f_X12_isIn a1 0 7) = 0) from b7)) (if_neg (show ¬ ((f_X12_isIn a2 0 7) = 0) from b17))))) rfl
def f_X12_arm (a1 : Int32) : Int32 := (1 + ((a1 / 8) - (a1 / 8) / 4 * 4))
set_option maxRecDepth 100000 in
set_option maxHeartbeats 4000000 in
theorem m_X12_arm {h : kH} {N : Nat} {a1 : Int32} : kMet kX12_arm false 0 0 [.int a1] h N (kRt (some (.int (f_X12_arm a1))) h N) := by
  refine kMet.in (by decide) rfl rfl _ rfl ?_
  refine k_iconst (v := 1) dX12_arm_0 (rfl : 0 + 1 = 1) (by decide) ?_
  refine k_iload_n (i := 0) dX12_arm_1 (rfl : 1 + 1 = 2) rfl rfl ?_
  refine k_bipush (v := 8) dX12_arm_2 (rfl : 2 + 2 = 4) (by decide) ?_
  refine k_idiv dX12_arm_4 (rfl : 4 + 1 = 5) (by decide) ?_
  refine k_iconst (v := 4) dX12_arm_5 (rfl : 5 + 1 = 6) (by decide) ?_
  refine k_irem dX12_arm_6 (rfl : 6 + 1 = 7) (by decide) ?_
  refine k_iadd dX12_arm_7 (rfl : 7 + 1 = 8) ?_
  refine k_iret rfl rfl dX12_arm_8 (Nat.le_of_ble_eq_true rfl) (Nat.le_of_ble_eq_true rfl) ?_
  exact kRt_of rfl rfl
def f_X12_pleaAt (a1 : Int32) (a2 : Int32) : Int32 := ((92 + (3 * a1)) + a2)
set_option maxRecDepth 100000 in
set_option maxHeartbeats 4000000 in
theorem m_X12_pleaAt {h : kH} {N : Nat} {a1 : Int32} {a2 : Int32} : kMet kX12_pleaAt false 0 0 [.int a1, .int a2] h N (kRt (some (.int (f_X12_pleaAt a1 a2))) h N) := by
  refine kMet.in (by decide) rfl rfl _ rfl ?_
  refine k_bipush (v := 92) dX12_pleaAt_0 (rfl : 0 + 2 = 2) (by decide) ?_
  refine k_iconst (v := 3) dX12_pleaAt_2 (rfl : 2 + 1 = 3) (by decide) ?_
  refine k_iload_n (i := 0) dX12_pleaAt_3 (rfl : 3 + 1 = 4) rfl rfl ?_
  refine k_imul dX12_pleaAt_4 (rfl : 4 + 1 = 5) ?_
  refine k_iadd dX12_pleaAt_5 (rfl : 5 + 1 = 6) ?_
  refine k_iload_n (i := 1) dX12_pleaAt_6 (rfl : 6 + 1 = 7) rfl rfl ?_
  refine k_iadd dX12_pleaAt_7 (rfl : 7 + 1 = 8) ?_
  refine k_iret rfl rfl dX12_pleaAt_8 (Nat.le_of_ble_eq_true rfl) (Nat.le_of_ble_eq_true rfl) ?_
  exact kRt_of rfl rfl
def f_X12_thrown (x : kY)  : Int32 := (x.1 0)
set_option maxRecDepth 100000 in
set_option maxHeartbeats 4000000 in
theorem m_X12_thrown {x : kY} {a9 : kH} {z9 : kE × kE} : kMet kX12_thrown false 0 0 [.ref 116] (kTp a9 (kHr x z9)) 130 (kRt (some (.int (f_X12_thrown x ))) (kTp a9 (kHr x z9)) 130) := by
  refine kMet.in (by decide) rfl rfl _ rfl ?_
  refine k_aload_n (i := 0) dX12_thrown_0 (rfl : 0 + 1 = 1) rfl rfl ?_
  refine k_get 12 0 fg_X12_50 dX12_thrown_1 (rfl : 1 + 3 = 4) (Nat.le_of_ble_eq_true rfl) rfl rfl ?_
  refine k_iret rfl rfl dX12_thrown_4 (Nat.le_of_ble_eq_true rfl) (Nat.le_of_ble_eq_true rfl) ?_
  exact kRt_of rfl rfl
/-- the first n of g, then f -/
def cpR (n : Nat) (f g : Nat → Int32) : Nat → Int32 := fun j => if j < n then g j else f j
set_option maxRecDepth 100000 in
set_option maxHeartbeats 4000000 in
theorem l_X12_lays {N i i2 : Nat} {f g : Nat → Int32} {h : kH} {Q : kQ} (hi : i < N) (hi2 : i2 < N) (hne : i2 ≠ i) (he2 : h i2 = kI 116 g) (hQ : Q (.inl none) (kU h i (kI 116 g)) N) : ∀ (k j : Nat), j + k = 116 → kEv kX12_lays (kRm kX12_lays 0 0) (kFm false 0 0 (Q)) false 2 [.ref i, .ref i2, .int (nI j)] [] (kU h i (kI 116 (cpR j f g))) N 0 0 := by
  intro k
  induction k with
  | zero =>
    intro j hj
    obtain rfl : j = 116 := by omega
    refine k_iload_n (i := 2) dX12_lays_2 (rfl : 2 + 1 = 3) rfl rfl ?_
    refine k_bipush (v := 116) dX12_lays_3 (rfl : 3 + 2 = 5) (by decide) ?_
    refine k_icmp_ge (tgt := 20) dX12_lays_5 (rfl : 5 + 3 = 8) (by decide) (fun b7 => ?_) (fun b7 => by exact absurd (nI_le (a := 116) (b := 116) (by omega) (by omega)) b7)
    refine k_alike (h' := kU h i (kI 116 g)) (fun q _ => ?_) ?_
    · by_cases hq : q = i
      · subst hq
        rw [kU_s, kU_s]
        exact Or.inr ⟨0, 116, _, _, rfl, rfl, fun j hj => if_pos hj⟩
      · rw [kU_n hq, kU_n hq]
        exact Or.inl rfl
    refine k_vret rfl dX12_lays_20 (Nat.le_of_ble_eq_true rfl) (Nat.le_of_ble_eq_true rfl) ?_
    exact hQ
  | succ k ih =>
    intro j hj
    refine k_iload_n (i := 2) dX12_lays_2 (rfl : 2 + 1 = 3) rfl rfl ?_
    refine k_bipush (v := 116) dX12_lays_3 (rfl : 3 + 2 = 5) (by decide) ?_
    refine k_icmp_ge (tgt := 20) dX12_lays_5 (rfl : 5 + 3 = 8) (by decide) (fun b7 => by exact absurd b7 (nI_ge (a := j) (b := 116) (by omega) (by omega))) (fun b7 => ?_)
    refine k_aload_n (i := 0) dX12_lays_8 (rfl : 8 + 1 = 9) rfl rfl ?_
    refine k_iload_n (i := 2) dX12_lays_9 (rfl : 9 + 1 = 10) rfl rfl ?_
    refine k_aload_n (i := 1) dX12_lays_10 (rfl : 10 + 1 = 11) rfl rfl ?_
    refine k_iload_n (i := 2) dX12_lays_11 (rfl : 11 + 1 = 12) rfl rfl ?_
    refine k_iald (f := g) dX12_lays_12 (rfl : 12 + 1 = 13) hi2 ((kU_n hne).trans he2) (vp_in_nI (by omega) (by omega)) ?_
    refine k_iast (n := 116) (f := cpR j f g) dX12_lays_13 (rfl : 13 + 1 = 14) hi kU_s (vp_in_nI (by omega) (by omega)) ?_
    refine k_iinc (i := 2) (v := nI (j + 1)) dX12_lays_14 (rfl : 14 + 3 = 17) rfl (Nat.le_of_ble_eq_true rfl) (nI_1 _) ?_
    refine k_ls (ls2 := [.ref i, .ref i2, .int (nI (j + 1))]) rfl ?_
    refine k_goto (tgt := 2) dX12_lays_17 (by decide) ?_
    rw [kU_kU, show upd (cpR j f g) (nI j).toNatClampNeg (g (nI j).toNatClampNeg) = cpR (j + 1) f g from ?_]
    · exact ih (j + 1) (by omega)
    · rw [nI_clamp (by omega)]
      funext q
      unfold upd cpR
      by_cases h1 : q = j
      · subst h1; simp
      · by_cases h2 : q < j
        · simp [h1, h2, show q < j + 1 by omega]
        · simp [h1, h2, show ¬ q < j + 1 by omega]
set_option maxRecDepth 100000 in
set_option maxHeartbeats 4000000 in
theorem m_X12_lays {N i i2 : Nat} {f g : Nat → Int32} {h : kH} (hi : i < N) (hi2 : i2 < N) (hne : i2 ≠ i) (he : h i = kI 116 f) (he2 : h i2 = kI 116 g) : kMet kX12_lays false 0 0 [.ref i, .ref i2] h N (kRt none (kU h i (kI 116 g)) N) := by
  refine kMet.in (by decide) rfl rfl _ rfl ?_
  refine k_iconst (v := 0) dX12_lays_0 (rfl : 0 + 1 = 1) (by decide) ?_
  refine k_istore_n (i := 2) dX12_lays_1 (rfl : 1 + 1 = 2) rfl (Nat.le_of_ble_eq_true rfl) ?_
  refine k_ls (ls2 := [.ref i, .ref i2, .int (nI 0)]) rfl ?_
  have e0 : kU h i (kI 116 (cpR 0 f g)) = h := kU_self he
  have q := fun (Q : kQ) hQ => l_X12_lays (Q := Q) (f := f) (g := g) (h := h) hi hi2 hne he2 hQ 116 0 (by omega)
  rw [e0] at q
  exact q _ kRt_rfl
def f_X12_isTree (v : Nat → Int32) (a1 : Int32) : Int32 := if (v (Int32.toNatClampNeg (12 + a1))) = 1 then 1 else 0
set_option maxRecDepth 100000 in
set_option maxHeartbeats 4000000 in
theorem m_X12_isTree {x : kY} {a9 : kH} {z9 : kE × kE} {a1 : Int32} (hc : kC64 a1) : kMet kX12_isTree false 0 0 [.ref 116, .int a1] (kTp a9 (kHr x z9)) 130 (kRt (some (.int (f_X12_isTree (x.2 0) a1))) (kTp a9 (kHr x z9)) 130) := by
  refine kMet.in (by decide) rfl rfl _ rfl ?_
  refine k_aload_n (i := 0) dX12_isTree_0 (rfl : 0 + 1 = 1) rfl rfl ?_
  refine k_get 12 7 fg_X12_16 dX12_isTree_1 (rfl : 1 + 3 = 4) (Nat.le_of_ble_eq_true rfl) rfl rfl ?_
  refine k_bipush (v := 12) dX12_isTree_4 (rfl : 4 + 2 = 6) (by decide) ?_
  refine k_iload_n (i := 1) dX12_isTree_6 (rfl : 6 + 1 = 7) rfl rfl ?_
  refine k_iadd dX12_isTree_7 (rfl : 7 + 1 = 8) ?_
  refine k_iald dX12_isTree_8 (rfl : 8 + 1 = 9) (Nat.le_of_ble_eq_true rfl) rfl (c64_in hc) ?_
  refine k_iconst (v := 1) dX12_isTree_9 (rfl : 9 + 1 = 10) (by decide) ?_
  refine k_icmp_ne (tgt := 17) dX12_isTree_10 (rfl : 10 + 3 = 13) (by decide) (fun b10 => ?_) (fun b10 => ?_)
  · refine k_iconst (v := 0) dX12_isTree_17 (rfl : 17 + 1 = 18) (by decide) ?_
    refine k_iret rfl rfl dX12_isTree_18 (Nat.le_of_ble_eq_true rfl) (Nat.le_of_ble_eq_true rfl) ?_
    exact kRt_of (congrArg (fun z => some (Value.int z)) (Eq.symm (if_neg (show ¬ (((x.2 0) (Int32.toNatClampNeg (12 + a1))) = 1) from b10)))) rfl
  · refine k_iconst (v := 1) dX12_isTree_13 (rfl : 13 + 1 = 14) (by decide) ?_
    refine k_goto (tgt := 18) dX12_isTree_14 (by decide) ?_
    refine k_iret rfl rfl dX12_isTree_18 (Nat.le_of_ble_eq_true rfl) (Nat.le_of_ble_eq_true rfl) ?_
    exact kRt_of (congrArg (fun z => some (Value.int z)) (Eq.symm (if_pos (show ((x.2 0) (Int32.toNatClampNeg (12 + a1))) = 1 from b10)))) rfl
def f_X12_cellOfParty (v : Nat → Int32) (a1 : Int32) : Int32 := (v (Int32.toNatClampNeg (76 + (2 * a1))))
set_option maxRecDepth 100000 in
set_option maxHeartbeats 4000000 in
theorem m_X12_cellOfParty {x : kY} {a9 : kH} {z9 : kE × kE} {a1 : Int32} (hp : kP8 a1) : kMet kX12_cellOfParty false 0 0 [.ref 116, .int a1] (kTp a9 (kHr x z9)) 130 (kRt (some (.int (f_X12_cellOfParty (x.2 0) a1))) (kTp a9 (kHr x z9)) 130) := by
  refine kMet.in (by decide) rfl rfl _ rfl ?_
  refine k_aload_n (i := 0) dX12_cellOfParty_0 (rfl : 0 + 1 = 1) rfl rfl ?_
  refine k_get 12 7 fg_X12_16 dX12_cellOfParty_1 (rfl : 1 + 3 = 4) (Nat.le_of_ble_eq_true rfl) rfl rfl ?_
  refine k_bipush (v := 76) dX12_cellOfParty_4 (rfl : 4 + 2 = 6) (by decide) ?_
  refine k_iconst (v := 2) dX12_cellOfParty_6 (rfl : 6 + 1 = 7) (by decide) ?_
  refine k_iload_n (i := 1) dX12_cellOfParty_7 (rfl : 7 + 1 = 8) rfl rfl ?_
  refine k_imul dX12_cellOfParty_8 (rfl : 8 + 1 = 9) ?_
  refine k_iadd dX12_cellOfParty_9 (rfl : 9 + 1 = 10) ?_
  refine k_iald dX12_cellOfParty_10 (rfl : 10 + 1 = 11) (Nat.le_of_ble_eq_true rfl) rfl (p8_cell hp).1 ?_
  refine k_iret rfl rfl dX12_cellOfParty_11 (Nat.le_of_ble_eq_true rfl) (Nat.le_of_ble_eq_true rfl) ?_
  exact kRt_of rfl rfl
theorem cop_of {v : Nat → Int32} {j : Nat} (h : j < 8) : f_X12_cellOfParty v (nI j) = v (76 + 2 * j) := by
  unfold f_X12_cellOfParty
  obtain ⟨n, hn, e1, e2⟩ := (p8_cell (a := nI j) ⟨j, h, rfl⟩).2
  rw [e2]
  have h3 : ∀ j, j < 8 → ∀ n, n < 8 → nI j = nI n → j = n := by decide
  rw [h3 j h n hn e1]
def sdL (v : Nat → Int32) (c : Int32) : Nat → Nat → Int32
  | 0, j => (-1)
  | k + 1, j => if (f_X12_cellOfParty v (nI j)) = c then (nI j) else (sdL v c k (j + 1))
set_option maxRecDepth 100000 in
set_option maxHeartbeats 4000000 in
theorem lsdL {x : kY} {a9 : kH} {z9 : kE × kE} {c : Int32}  (hv : kMv (x.2 0)) : ∀ (k : Nat) (j : Nat), j + k = (Int32.toNatClampNeg ((x.2 0) 6)) → kEv kX12_standing (kRm kX12_standing 0 0) (kFm false 0 0 ((kRt (some (.int (sdL (x.2 0) c k j))) (kTp a9 (kHr x z9)) 130))) false 2 [.ref 116, .int c, .int (nI j)] [] (kTp a9 (kHr x z9)) 130 0 0 := by
  intro k
  induction k with
  | zero =>
    intro j hj
    refine k_iload_n (i := 2) dX12_standing_2 (rfl : 2 + 1 = 3) rfl rfl ?_
    refine k_aload_n (i := 0) dX12_standing_3 (rfl : 3 + 1 = 4) rfl rfl ?_
    refine k_get 12 7 fg_X12_16 dX12_standing_4 (rfl : 4 + 3 = 7) (Nat.le_of_ble_eq_true rfl) rfl rfl ?_
    refine k_bipush (v := 6) dX12_standing_7 (rfl : 7 + 2 = 9) (by decide) ?_
    refine k_ialdc (c := 6) (by decide) dX12_standing_9 (rfl : 9 + 1 = 10) (Nat.le_of_ble_eq_true rfl) rfl (vp_in_iff.mpr (by decide)) ?_
    refine k_icmp_ge (tgt := 30) dX12_standing_10 (rfl : 10 + 3 = 13) (by decide) (fun b10 => ?_) (fun b10 => by exact absurd (cl_le (by omega)) b10)
    refine k_iconst (v := (-1)) dX12_standing_30 (rfl : 30 + 1 = 31) (by decide) ?_
    refine k_iret rfl rfl dX12_standing_31 (Nat.le_of_ble_eq_true rfl) (Nat.le_of_ble_eq_true rfl) ?_
    have e9 : (sdL (x.2 0) c 0 j) = (-1) := by rw [sdL]
    exact kRt_of (congrArg (fun z => some (Value.int z)) (Eq.symm e9)) rfl
  | succ k ih =>
    intro j hj
    refine k_iload_n (i := 2) dX12_standing_2 (rfl : 2 + 1 = 3) rfl rfl ?_
    refine k_aload_n (i := 0) dX12_standing_3 (rfl : 3 + 1 = 4) rfl rfl ?_
    refine k_get 12 7 fg_X12_16 dX12_standing_4 (rfl : 4 + 3 = 7) (Nat.le_of_ble_eq_true rfl) rfl rfl ?_
    refine k_bipush (v := 6) dX12_standing_7 (rfl : 7 + 2 = 9) (by decide) ?_
    refine k_ialdc (c := 6) (by decide) dX12_standing_9 (rfl : 9 + 1 = 10) (Nat.le_of_ble_eq_true rfl) rfl (vp_in_iff.mpr (by decide)) ?_
    refine k_icmp_ge (tgt := 30) dX12_standing_10 (rfl : 10 + 3 = 13) (by decide) (fun b10 => by exact absurd b10 (cl_nle (by omega))) (fun b10 => ?_)
    refine k_aload_n (i := 0) dX12_standing_13 (rfl : 13 + 1 = 14) rfl rfl ?_
    refine k_iload_n (i := 2) dX12_standing_14 (rfl : 14 + 1 = 15) rfl rfl ?_
    refine k_callVd1 cv_X12_74 ⟨Nat.le_of_ble_eq_true rfl, Nat.le_of_ble_eq_true rfl⟩ (m_X12_cellOfParty ⟨j, by have := mv_n hv; omega, rfl⟩) dX12_standing_15 (rfl : 15 + 3 = 18) (Nat.le_of_ble_eq_true rfl) rfl rfl rfl ⟨Nat.le_of_ble_eq_true rfl, Nat.le_of_ble_eq_true rfl⟩ ?_
    refine k_iload_n (i := 1) dX12_standing_18 (rfl : 18 + 1 = 19) rfl rfl ?_
    refine k_icmp_ne (tgt := 24) dX12_standing_19 (rfl : 19 + 3 = 22) (by decide) (fun b19 => ?_) (fun b19 => ?_)
    · refine k_iinc (i := 2) (v := (nI (j + 1))) dX12_standing_24 (rfl : 24 + 3 = 27) rfl (Nat.le_of_ble_eq_true rfl) (nI_1 _) ?_
      refine k_ls (ls2 := [.ref 116, .int c, .int (nI (j + 1))]) rfl ?_
      refine k_goto (tgt := 2) dX12_standing_27 (by decide) ?_
      rw [sdL, if_neg (show ¬ ((f_X12_cellOfParty (x.2 0) (nI j)) = c) from b19)]
      exact ih (j + 1) (by omega)
    · refine k_iload_n (i := 2) dX12_standing_22 (rfl : 22 + 1 = 23) rfl rfl ?_
      refine k_iret rfl rfl dX12_standing_23 (Nat.le_of_ble_eq_true rfl) (Nat.le_of_ble_eq_true rfl) ?_
      have e9 : (sdL (x.2 0) c (k + 1) j) = (nI j) := by rw [sdL, if_pos (show (f_X12_cellOfParty (x.2 0) (nI j)) = c from b19)]
      exact kRt_of (congrArg (fun z => some (Value.int z)) (Eq.symm e9)) rfl
set_option maxRecDepth 100000 in
set_option maxHeartbeats 4000000 in
theorem m_X12_standing {x : kY} {a9 : kH} {z9 : kE × kE} {c : Int32} (hv : kMv (x.2 0)) : kMet kX12_standing false 0 0 [.ref 116, .int c] (kTp a9 (kHr x z9)) 130 (kRt (some (.int (sdL (x.2 0) c (Int32.toNatClampNeg ((x.2 0) 6)) 0))) (kTp a9 (kHr x z9)) 130) := by
  refine kMet.in (by decide) rfl rfl _ rfl ?_
  refine k_iconst (v := 0) dX12_standing_0 (rfl : 0 + 1 = 1) (by decide) ?_
  refine k_istore_n (i := 2) dX12_standing_1 (rfl : 1 + 1 = 2) rfl (Nat.le_of_ble_eq_true rfl) ?_
  exact lsdL hv _ 0 (by omega)
def f_X12_next (a1 : Int32) (a2 : Int32) : Int32 := if a2 = 0 then (if a2 < 3 then (if a2 < 1 then (if a2 < 5 then ((8 * ((a1 / 8) - (a1 / 8) / 8 * 8)) + (((a1 - a1 / 8 * 8) + Int32.ofInt 1) - ((a1 - a1 / 8 * 8) + Int32.ofInt 1) / 8 * 8)) else ((8 * (((a1 / 8) + Int32.ofInt 7) - ((a1 / 8) + Int32.ofInt 7) / 8 * 8)) + (((a1 - a1 / 8 * 8) + Int32.ofInt 1) - ((a1 - a1 / 8 * 8) + Int32.ofInt 1) / 8 * 8))) else (if 3 < a2 then (if a2 < 5 then ((8 * ((a1 / 8) - (a1 / 8) / 8 * 8)) + (((a1 - a1 / 8 * 8) + Int32.ofInt 1) - ((a1 - a1 / 8 * 8) + Int32.ofInt 1) / 8 * 8)) else ((8 * (((a1 / 8) + Int32.ofInt 7) - ((a1 / 8) + Int32.ofInt 7) / 8 * 8)) + (((a1 - a1 / 8 * 8) + Int32.ofInt 1) - ((a1 - a1 / 8 * 8) + Int32.ofInt 1) / 8 * 8))) else (if a2 < 5 then ((8 * (((a1 / 8) + Int32.ofInt 1) - ((a1 / 8) + Int32.ofInt 1) / 8 * 8)) + (((a1 - a1 / 8 * 8) + Int32.ofInt 1) - ((a1 - a1 / 8 * 8) + Int32.ofInt 1) / 8 * 8)) else ((8 * ((((a1 / 8) + Int32.ofInt 1) + Int32.ofInt 7) - (((a1 / 8) + Int32.ofInt 1) + Int32.ofInt 7) / 8 * 8)) + (((a1 - a1 / 8 * 8) + Int32.ofInt 1) - ((a1 - a1 / 8 * 8) + Int32.ofInt 1) / 8 * 8))))) else (if 5 < a2 then (if a2 < 1 then (if a2 < 5 then ((8 * ((a1 / 8) - (a1 / 8) / 8 * 8)) + (((a1 - a1 / 8 * 8) + Int32.ofInt 1) - ((a1 - a1 / 8 * 8) + Int32.ofInt 1) / 8 * 8)) else ((8 * (((a1 / 8) + Int32.ofInt 7) - ((a1 / 8) + Int32.ofInt 7) / 8 * 8)) + (((a1 - a1 / 8 * 8) + Int32.ofInt 1) - ((a1 - a1 / 8 * 8) + Int32.ofInt 1) / 8 * 8))) else (if 3 < a2 then (if a2 < 5 then ((8 * ((a1 / 8) - (a1 / 8) / 8 * 8)) + (((a1 - a1 / 8 * 8) + Int32.ofInt 1) - ((a1 - a1 / 8 * 8) + Int32.ofInt 1) / 8 * 8)) else ((8 * (((a1 / 8) + Int32.ofInt 7) - ((a1 / 8) + Int32.ofInt 7) / 8 * 8)) + (((a1 - a1 / 8 * 8) + Int32.ofInt 1) - ((a1 - a1 / 8 * 8) + Int32.ofInt 1) / 8 * 8))) else (if a2 < 5 then ((8 * (((a1 / 8) + Int32.ofInt 1) - ((a1 / 8) + Int32.ofInt 1) / 8 * 8)) + (((a1 - a1 / 8 * 8) + Int32.ofInt 1) - ((a1 - a1 / 8 * 8) + Int32.ofInt 1) / 8 * 8)) else ((8 * ((((a1 / 8) + Int32.ofInt 1) + Int32.ofInt 7) - (((a1 / 8) + Int32.ofInt 1) + Int32.ofInt 7) / 8 * 8)) + (((a1 - a1 / 8 * 8) + Int32.ofInt 1) - ((a1 - a1 / 8 * 8) + Int32.ofInt 1) / 8 * 8))))) else (if a2 < 1 then (if a2 < 5 then ((8 * ((a1 / 8) - (a1 / 8) / 8 * 8)) + ((((a1 - a1 / 8 * 8) + Int32.ofInt 1) + Int32.ofInt 7) - (((a1 - a1 / 8 * 8) + Int32.ofInt 1) + Int32.ofInt 7) / 8 * 8)) else ((8 * (((a1 / 8) + Int32.ofInt 7) - ((a1 / 8) + Int32.ofInt 7) / 8 * 8)) + ((((a1 - a1 / 8 * 8) + Int32.ofInt 1) + Int32.ofInt 7) - (((a1 - a1 / 8 * 8) + Int32.ofInt 1) + Int32.ofInt 7) / 8 * 8))) else (if 3 < a2 then (if a2 < 5 then ((8 * ((a1 / 8) - (a1 / 8) / 8 * 8)) + ((((a1 - a1 / 8 * 8) + Int32.ofInt 1) + Int32.ofInt 7) - (((a1 - a1 / 8 * 8) + Int32.ofInt 1) + Int32.ofInt 7) / 8 * 8)) else ((8 * (((a1 / 8) + Int32.ofInt 7) - ((a1 / 8) + Int32.ofInt 7) / 8 * 8)) + ((((a1 - a1 / 8 * 8) + Int32.ofInt 1) + Int32.ofInt 7) - (((a1 - a1 / 8 * 8) + Int32.ofInt 1) + Int32.ofInt 7) / 8 * 8))) else (if a2 < 5 then ((8 * (((a1 / 8) + Int32.ofInt 1) - ((a1 / 8) + Int32.ofInt 1) / 8 * 8)) + ((((a1 - a1 / 8 * 8) + Int32.ofInt 1) + Int32.ofInt 7) - (((a1 - a1 / 8 * 8) + Int32.ofInt 1) + Int32.ofInt 7) / 8 * 8)) else ((8 * ((((a1 / 8) + Int32.ofInt 1) + Int32.ofInt 7) - (((a1 / 8) + Int32.ofInt 1) + Int32.ofInt 7) / 8 * 8)) + ((((a1 - a1 / 8 * 8) + Int32.ofInt 1) + Int32.ofInt 7) - (((a1 - a1 / 8 * 8) + Int32.ofInt 1) + Int32.ofInt 7) / 8 * 8))))))) else (if a2 = 1 then (if a2 < 3 then (if a2 < 1 then (if a2 < 5 then ((8 * ((a1 / 8) - (a1 / 8) / 8 * 8)) + (((a1 - a1 / 8 * 8) + Int32.ofInt 1) - ((a1 - a1 / 8 * 8) + Int32.ofInt 1) / 8 * 8)) else ((8 * (((a1 / 8) + Int32.ofInt 7) - ((a1 / 8) + Int32.ofInt 7) / 8 * 8)) + (((a1 - a1 / 8 * 8) + Int32.ofInt 1) - ((a1 - a1 / 8 * 8) + Int32.ofInt 1) / 8 * 8))) else (if 3 < a2 then (if a2 < 5 then ((8 * ((a1 / 8) - (a1 / 8) / 8 * 8)) + (((a1 - a1 / 8 * 8) + Int32.ofInt 1) - ((a1 - a1 / 8 * 8) + Int32.ofInt 1) / 8 * 8)) else ((8 * (((a1 / 8) + Int32.ofInt 7) - ((a1 / 8) + Int32.ofInt 7) / 8 * 8)) + (((a1 - a1 / 8 * 8) + Int32.ofInt 1) - ((a1 - a1 / 8 * 8) + Int32.ofInt 1) / 8 * 8))) else (if a2 < 5 then ((8 * (((a1 / 8) + Int32.ofInt 1) - ((a1 / 8) + Int32.ofInt 1) / 8 * 8)) + (((a1 - a1 / 8 * 8) + Int32.ofInt 1) - ((a1 - a1 / 8 * 8) + Int32.ofInt 1) / 8 * 8)) else ((8 * ((((a1 / 8) + Int32.ofInt 1) + Int32.ofInt 7) - (((a1 / 8) + Int32.ofInt 1) + Int32.ofInt 7) / 8 * 8)) + (((a1 - a1 / 8 * 8) + Int32.ofInt 1) - ((a1 - a1 / 8 * 8) + Int32.ofInt 1) / 8 * 8))))) else (if 5 < a2 then (if a2 < 1 then (if a2 < 5 then ((8 * ((a1 / 8) - (a1 / 8) / 8 * 8)) + (((a1 - a1 / 8 * 8) + Int32.ofInt 1) - ((a1 - a1 / 8 * 8) + Int32.ofInt 1) / 8 * 8)) else ((8 * (((a1 / 8) + Int32.ofInt 7) - ((a1 / 8) + Int32.ofInt 7) / 8 * 8)) + (((a1 - a1 / 8 * 8) + Int32.ofInt 1) - ((a1 - a1 / 8 * 8) + Int32.ofInt 1) / 8 * 8))) else (if 3 < a2 then (if a2 < 5 then ((8 * ((a1 / 8) - (a1 / 8) / 8 * 8)) + (((a1 - a1 / 8 * 8) + Int32.ofInt 1) - ((a1 - a1 / 8 * 8) + Int32.ofInt 1) / 8 * 8)) else ((8 * (((a1 / 8) + Int32.ofInt 7) - ((a1 / 8) + Int32.ofInt 7) / 8 * 8)) + (((a1 - a1 / 8 * 8) + Int32.ofInt 1) - ((a1 - a1 / 8 * 8) + Int32.ofInt 1) / 8 * 8))) else (if a2 < 5 then ((8 * (((a1 / 8) + Int32.ofInt 1) - ((a1 / 8) + Int32.ofInt 1) / 8 * 8)) + (((a1 - a1 / 8 * 8) + Int32.ofInt 1) - ((a1 - a1 / 8 * 8) + Int32.ofInt 1) / 8 * 8)) else ((8 * ((((a1 / 8) + Int32.ofInt 1) + Int32.ofInt 7) - (((a1 / 8) + Int32.ofInt 1) + Int32.ofInt 7) / 8 * 8)) + (((a1 - a1 / 8 * 8) + Int32.ofInt 1) - ((a1 - a1 / 8 * 8) + Int32.ofInt 1) / 8 * 8))))) else (if a2 < 1 then (if a2 < 5 then ((8 * ((a1 / 8) - (a1 / 8) / 8 * 8)) + ((((a1 - a1 / 8 * 8) + Int32.ofInt 1) + Int32.ofInt 7) - (((a1 - a1 / 8 * 8) + Int32.ofInt 1) + Int32.ofInt 7) / 8 * 8)) else ((8 * (((a1 / 8) + Int32.ofInt 7) - ((a1 / 8) + Int32.ofInt 7) / 8 * 8)) + ((((a1 - a1 / 8 * 8) + Int32.ofInt 1) + Int32.ofInt 7) - (((a1 - a1 / 8 * 8) + Int32.ofInt 1) + Int32.ofInt 7) / 8 * 8))) else (if 3 < a2 then (if a2 < 5 then ((8 * ((a1 / 8) - (a1 / 8) / 8 * 8)) + ((((a1 - a1 / 8 * 8) + Int32.ofInt 1) + Int32.ofInt 7) - (((a1 - a1 / 8 * 8) + Int32.ofInt 1) + Int32.ofInt 7) / 8 * 8)) else ((8 * (((a1 / 8) + Int32.ofInt 7) - ((a1 / 8) + Int32.ofInt 7) / 8 * 8)) + ((((a1 - a1 / 8 * 8) + Int32.ofInt 1) + Int32.ofInt 7) - (((a1 - a1 / 8 * 8) + Int32.ofInt 1) + Int32.ofInt 7) / 8 * 8))) else (if a2 < 5 then ((8 * (((a1 / 8) + Int32.ofInt 1) - ((a1 / 8) + Int32.ofInt 1) / 8 * 8)) + ((((a1 - a1 / 8 * 8) + Int32.ofInt 1) + Int32.ofInt 7) - (((a1 - a1 / 8 * 8) + Int32.ofInt 1) + Int32.ofInt 7) / 8 * 8)) else ((8 * ((((a1 / 8) + Int32.ofInt 1) + Int32.ofInt 7) - (((a1 / 8) + Int32.ofInt 1) + Int32.ofInt 7) / 8 * 8)) + ((((a1 - a1 / 8 * 8) + Int32.ofInt 1) + Int32.ofInt 7) - (((a1 - a1 / 8 * 8) + Int32.ofInt 1) + Int32.ofInt 7) / 8 * 8))))))) else (if a2 = 7 then (if a2 < 3 then (if a2 < 1 then (if a2 < 5 then ((8 * ((a1 / 8) - (a1 / 8) / 8 * 8)) + (((a1 - a1 / 8 * 8) + Int32.ofInt 1) - ((a1 - a1 / 8 * 8) + Int32.ofInt 1) / 8 * 8)) else ((8 * (((a1 / 8) + Int32.ofInt 7) - ((a1 / 8) + Int32.ofInt 7) / 8 * 8)) + (((a1 - a1 / 8 * 8) + Int32.ofInt 1) - ((a1 - a1 / 8 * 8) + Int32.ofInt 1) / 8 * 8))) else (if 3 < a2 then (if a2 < 5 then ((8 * ((a1 / 8) - (a1 / 8) / 8 * 8)) + (((a1 - a1 / 8 * 8) + Int32.ofInt 1) - ((a1 - a1 / 8 * 8) + Int32.ofInt 1) / 8 * 8)) else ((8 * (((a1 / 8) + Int32.ofInt 7) - ((a1 / 8) + Int32.ofInt 7) / 8 * 8)) + (((a1 - a1 / 8 * 8) + Int32.ofInt 1) - ((a1 - a1 / 8 * 8) + Int32.ofInt 1) / 8 * 8))) else (if a2 < 5 then ((8 * (((a1 / 8) + Int32.ofInt 1) - ((a1 / 8) + Int32.ofInt 1) / 8 * 8)) + (((a1 - a1 / 8 * 8) + Int32.ofInt 1) - ((a1 - a1 / 8 * 8) + Int32.ofInt 1) / 8 * 8)) else ((8 * ((((a1 / 8) + Int32.ofInt 1) + Int32.ofInt 7) - (((a1 / 8) + Int32.ofInt 1) + Int32.ofInt 7) / 8 * 8)) + (((a1 - a1 / 8 * 8) + Int32.ofInt 1) - ((a1 - a1 / 8 * 8) + Int32.ofInt 1) / 8 * 8))))) else (if 5 < a2 then (if a2 < 1 then (if a2 < 5 then ((8 * ((a1 / 8) - (a1 / 8) / 8 * 8)) + (((a1 - a1 / 8 * 8) + Int32.ofInt 1) - ((a1 - a1 / 8 * 8) + Int32.ofInt 1) / 8 * 8)) else ((8 * (((a1 / 8) + Int32.ofInt 7) - ((a1 / 8) + Int32.ofInt 7) / 8 * 8)) + (((a1 - a1 / 8 * 8) + Int32.ofInt 1) - ((a1 - a1 / 8 * 8) + Int32.ofInt 1) / 8 * 8))) else (if 3 < a2 then (if a2 < 5 then ((8 * ((a1 / 8) - (a1 / 8) / 8 * 8)) + (((a1 - a1 / 8 * 8) + Int32.ofInt 1) - ((a1 - a1 / 8 * 8) + Int32.ofInt 1) / 8 * 8)) else ((8 * (((a1 / 8) + Int32.ofInt 7) - ((a1 / 8) + Int32.ofInt 7) / 8 * 8)) + (((a1 - a1 / 8 * 8) + Int32.ofInt 1) - ((a1 - a1 / 8 * 8) + Int32.ofInt 1) / 8 * 8))) else (if a2 < 5 then ((8 * (((a1 / 8) + Int32.ofInt 1) - ((a1 / 8) + Int32.ofInt 1) / 8 * 8)) + (((a1 - a1 / 8 * 8) + Int32.ofInt 1) - ((a1 - a1 / 8 * 8) + Int32.ofInt 1) / 8 * 8)) else ((8 * ((((a1 / 8) + Int32.ofInt 1) + Int32.ofInt 7) - (((a1 / 8) + Int32.ofInt 1) + Int32.ofInt 7) / 8 * 8)) + (((a1 - a1 / 8 * 8) + Int32.ofInt 1) - ((a1 - a1 / 8 * 8) + Int32.ofInt 1) / 8 * 8))))) else (if a2 < 1 then (if a2 < 5 then ((8 * ((a1 / 8) - (a1 / 8) / 8 * 8)) + ((((a1 - a1 / 8 * 8) + Int32.ofInt 1) + Int32.ofInt 7) - (((a1 - a1 / 8 * 8) + Int32.ofInt 1) + Int32.ofInt 7) / 8 * 8)) else ((8 * (((a1 / 8) + Int32.ofInt 7) - ((a1 / 8) + Int32.ofInt 7) / 8 * 8)) + ((((a1 - a1 / 8 * 8) + Int32.ofInt 1) + Int32.ofInt 7) - (((a1 - a1 / 8 * 8) + Int32.ofInt 1) + Int32.ofInt 7) / 8 * 8))) else (if 3 < a2 then (if a2 < 5 then ((8 * ((a1 / 8) - (a1 / 8) / 8 * 8)) + ((((a1 - a1 / 8 * 8) + Int32.ofInt 1) + Int32.ofInt 7) - (((a1 - a1 / 8 * 8) + Int32.ofInt 1) + Int32.ofInt 7) / 8 * 8)) else ((8 * (((a1 / 8) + Int32.ofInt 7) - ((a1 / 8) + Int32.ofInt 7) / 8 * 8)) + ((((a1 - a1 / 8 * 8) + Int32.ofInt 1) + Int32.ofInt 7) - (((a1 - a1 / 8 * 8) + Int32.ofInt 1) + Int32.ofInt 7) / 8 * 8))) else (if a2 < 5 then ((8 * (((a1 / 8) + Int32.ofInt 1) - ((a1 / 8) + Int32.ofInt 1) / 8 * 8)) + ((((a1 - a1 / 8 * 8) + Int32.ofInt 1) + Int32.ofInt 7) - (((a1 - a1 / 8 * 8) + Int32.ofInt 1) + Int32.ofInt 7) / 8 * 8)) else ((8 * ((((a1 / 8) + Int32.ofInt 1) + Int32.ofInt 7) - (((a1 / 8) + Int32.ofInt 1) + Int32.ofInt 7) / 8 * 8)) + ((((a1 - a1 / 8 * 8) + Int32.ofInt 1) + Int32.ofInt 7) - (((a1 - a1 / 8 * 8) + Int32.ofInt 1) + Int32.ofInt 7) / 8 * 8))))))) else (if a2 < 3 then (if a2 < 1 then (if a2 < 5 then ((8 * ((a1 / 8) - (a1 / 8) / 8 * 8)) + ((a1 - a1 / 8 * 8) - (a1 - a1 / 8 * 8) / 8 * 8)) else ((8 * (((a1 / 8) + Int32.ofInt 7) - ((a1 / 8) + Int32.ofInt 7) / 8 * 8)) + ((a1 - a1 / 8 * 8) - (a1 - a1 / 8 * 8) / 8 * 8))) else (if 3 < a2 then (if a2 < 5 then ((8 * ((a1 / 8) - (a1 / 8) / 8 * 8)) + ((a1 - a1 / 8 * 8) - (a1 - a1 / 8 * 8) / 8 * 8)) else ((8 * (((a1 / 8) + Int32.ofInt 7) - ((a1 / 8) + Int32.ofInt 7) / 8 * 8)) + ((a1 - a1 / 8 * 8) - (a1 - a1 / 8 * 8) / 8 * 8))) else (if a2 < 5 then ((8 * (((a1 / 8) + Int32.ofInt 1) - ((a1 / 8) + Int32.ofInt 1) / 8 * 8)) + ((a1 - a1 / 8 * 8) - (a1 - a1 / 8 * 8) / 8 * 8)) else ((8 * ((((a1 / 8) + Int32.ofInt 1) + Int32.ofInt 7) - (((a1 / 8) + Int32.ofInt 1) + Int32.ofInt 7) / 8 * 8)) + ((a1 - a1 / 8 * 8) - (a1 - a1 / 8 * 8) / 8 * 8))))) else (if 5 < a2 then (if a2 < 1 then (if a2 < 5 then ((8 * ((a1 / 8) - (a1 / 8) / 8 * 8)) + ((a1 - a1 / 8 * 8) - (a1 - a1 / 8 * 8) / 8 * 8)) else ((8 * (((a1 / 8) + Int32.ofInt 7) - ((a1 / 8) + Int32.ofInt 7) / 8 * 8)) + ((a1 - a1 / 8 * 8) - (a1 - a1 / 8 * 8) / 8 * 8))) else (if 3 < a2 then (if a2 < 5 then ((8 * ((a1 / 8) - (a1 / 8) / 8 * 8)) + ((a1 - a1 / 8 * 8) - (a1 - a1 / 8 * 8) / 8 * 8)) else ((8 * (((a1 / 8) + Int32.ofInt 7) - ((a1 / 8) + Int32.ofInt 7) / 8 * 8)) + ((a1 - a1 / 8 * 8) - (a1 - a1 / 8 * 8) / 8 * 8))) else (if a2 < 5 then ((8 * (((a1 / 8) + Int32.ofInt 1) - ((a1 / 8) + Int32.ofInt 1) / 8 * 8)) + ((a1 - a1 / 8 * 8) - (a1 - a1 / 8 * 8) / 8 * 8)) else ((8 * ((((a1 / 8) + Int32.ofInt 1) + Int32.ofInt 7) - (((a1 / 8) + Int32.ofInt 1) + Int32.ofInt 7) / 8 * 8)) + ((a1 - a1 / 8 * 8) - (a1 - a1 / 8 * 8) / 8 * 8))))) else (if a2 < 1 then (if a2 < 5 then ((8 * ((a1 / 8) - (a1 / 8) / 8 * 8)) + (((a1 - a1 / 8 * 8) + Int32.ofInt 7) - ((a1 - a1 / 8 * 8) + Int32.ofInt 7) / 8 * 8)) else ((8 * (((a1 / 8) + Int32.ofInt 7) - ((a1 / 8) + Int32.ofInt 7) / 8 * 8)) + (((a1 - a1 / 8 * 8) + Int32.ofInt 7) - ((a1 - a1 / 8 * 8) + Int32.ofInt 7) / 8 * 8))) else (if 3 < a2 then (if a2 < 5 then ((8 * ((a1 / 8) - (a1 / 8) / 8 * 8)) + (((a1 - a1 / 8 * 8) + Int32.ofInt 7) - ((a1 - a1 / 8 * 8) + Int32.ofInt 7) / 8 * 8)) else ((8 * (((a1 / 8) + Int32.ofInt 7) - ((a1 / 8) + Int32.ofInt 7) / 8 * 8)) + (((a1 - a1 / 8 * 8) + Int32.ofInt 7) - ((a1 - a1 / 8 * 8) + Int32.ofInt 7) / 8 * 8))) else (if a2 < 5 then ((8 * (((a1 / 8) + Int32.ofInt 1) - ((a1 / 8) + Int32.ofInt 1) / 8 * 8)) + (((a1 - a1 / 8 * 8) + Int32.ofInt 7) - ((a1 - a1 / 8 * 8) + Int32.ofInt 7) / 8 * 8)) else ((8 * ((((a1 / 8) + Int32.ofInt 1) + Int32.ofInt 7) - (((a1 / 8) + Int32.ofInt 1) + Int32.ofInt 7) / 8 * 8)) + (((a1 - a1 / 8 * 8) + Int32.ofInt 7) - ((a1 - a1 / 8 * 8) + Int32.ofInt 7) / 8 * 8)))))))))
set_option maxRecDepth 100000 in
set_option maxHeartbeats 4000000 in
theorem m_X12_next {h : kH} {N : Nat} {a1 : Int32} {a2 : Int32} : kMet kX12_next false 0 0 [.int a1, .int a2] h N (kRt (some (.int (f_X12_next a1 a2))) h N) := by
  refine kMet.in (by decide) rfl rfl _ rfl ?_
  refine k_iload_n (i := 0) dX12_next_0 (rfl : 0 + 1 = 1) rfl rfl ?_
  refine k_bipush (v := 8) dX12_next_1 (rfl : 1 + 2 = 3) (by decide) ?_
  refine k_irem dX12_next_3 (rfl : 3 + 1 = 4) (by decide) ?_
  refine k_istore_n (i := 2) dX12_next_4 (rfl : 4 + 1 = 5) rfl (Nat.le_of_ble_eq_true rfl) ?_
  refine k_ls (ls2 := [.int a1, .int a2, .int (a1 - a1 / 8 * 8), .retAddr 0]) rfl ?_
  refine k_iload_n (i := 0) dX12_next_5 (rfl : 5 + 1 = 6) rfl rfl ?_
  refine k_bipush (v := 8) dX12_next_6 (rfl : 6 + 2 = 8) (by decide) ?_
  refine k_idiv dX12_next_8 (rfl : 8 + 1 = 9) (by decide) ?_
  refine k_istore_n (i := 3) dX12_next_9 (rfl : 9 + 1 = 10) rfl (Nat.le_of_ble_eq_true rfl) ?_
  refine k_ls (ls2 := [.int a1, .int a2, .int (a1 - a1 / 8 * 8), .int (a1 / 8)]) rfl ?_
  refine k_iload_n (i := 1) dX12_next_10 (rfl : 10 + 1 = 11) rfl rfl ?_
  refine k_if_eq (tgt := 25) dX12_next_11 (rfl : 11 + 3 = 14) (by decide) (fun b11 => ?_) (fun b11 => ?_)
  · refine k_iinc (i := 2) dX12_next_25 (rfl : 25 + 3 = 28) rfl (Nat.le_of_ble_eq_true rfl) rfl ?_
    refine k_ls (ls2 := [.int a1, .int a2, .int ((a1 - a1 / 8 * 8) + Int32.ofInt 1), .int (a1 / 8)]) rfl ?_
    refine k_iload_n (i := 1) dX12_next_28 (rfl : 28 + 1 = 29) rfl rfl ?_
    refine k_iconst (v := 3) dX12_next_29 (rfl : 29 + 1 = 30) (by decide) ?_
    refine k_icmp_lt (tgt := 41) dX12_next_30 (rfl : 30 + 3 = 33) (by decide) (fun b30 => ?_) (fun b30 => ?_)
    · refine k_iload_n (i := 1) dX12_next_41 (rfl : 41 + 1 = 42) rfl rfl ?_
      refine k_iconst (v := 1) dX12_next_42 (rfl : 42 + 1 = 43) (by decide) ?_
      refine k_icmp_lt (tgt := 54) dX12_next_43 (rfl : 43 + 3 = 46) (by decide) (fun b43 => ?_) (fun b43 => ?_)
      · refine k_iload_n (i := 1) dX12_next_54 (rfl : 54 + 1 = 55) rfl rfl ?_
        refine k_iconst (v := 5) dX12_next_55 (rfl : 55 + 1 = 56) (by decide) ?_
        refine k_icmp_lt (tgt := 62) dX12_next_56 (rfl : 56 + 3 = 59) (by decide) (fun b56 => ?_) (fun b56 => ?_)
        · refine k_bipush (v := 8) dX12_next_62 (rfl : 62 + 2 = 64) (by decide) ?_
          refine k_iload_n (i := 3) dX12_next_64 (rfl : 64 + 1 = 65) rfl rfl ?_
          refine k_bipush (v := 8) dX12_next_65 (rfl : 65 + 2 = 67) (by decide) ?_
          refine k_irem dX12_next_67 (rfl : 67 + 1 = 68) (by decide) ?_
          refine k_imul dX12_next_68 (rfl : 68 + 1 = 69) ?_
          refine k_iload_n (i := 2) dX12_next_69 (rfl : 69 + 1 = 70) rfl rfl ?_
          refine k_bipush (v := 8) dX12_next_70 (rfl : 70 + 2 = 72) (by decide) ?_
          refine k_irem dX12_next_72 (rfl : 72 + 1 = 73) (by decide) ?_
          refine k_iadd dX12_next_73 (rfl : 73 + 1 = 74) ?_
          refine k_iret rfl rfl dX12_next_74 (Nat.le_of_ble_eq_true rfl) (Nat.le_of_ble_eq_true rfl) ?_
          exact kRt_of (congrArg (fun z => some (Value.int z)) (Eq.symm (Eq.trans (if_pos (show a2 = 0 from b11)) (Eq.trans (if_pos (show a2 < 3 from b30)) (Eq.trans (if_pos (show a2 < 1 from b43)) (if_pos (show a2 < 5 from b56))))))) rfl
        · refine k_iinc (i := 3) dX12_next_59 (rfl : 59 + 3 = 62) rfl (Nat.le_of_ble_eq_true rfl) rfl ?_
          refine k_ls (ls2 := [.int a1, .int a2, .int ((a1 - a1 / 8 * 8) + Int32.ofInt 1), .int ((a1 / 8) + Int32.ofInt 7)]) rfl ?_
          refine k_bipush (v := 8) dX12_next_62 (rfl : 62 + 2 = 64) (by decide) ?_
          refine k_iload_n (i := 3) dX12_next_64 (rfl : 64 + 1 = 65) rfl rfl ?_
          refine k_bipush (v := 8) dX12_next_65 (rfl : 65 + 2 = 67) (by decide) ?_
          refine k_irem dX12_next_67 (rfl : 67 + 1 = 68) (by decide) ?_
          refine k_imul dX12_next_68 (rfl : 68 + 1 = 69) ?_
          refine k_iload_n (i := 2) dX12_next_69 (rfl : 69 + 1 = 70) rfl rfl ?_
          refine k_bipush (v := 8) dX12_next_70 (rfl : 70 + 2 = 72) (by decide) ?_
          refine k_irem dX12_next_72 (rfl : 72 + 1 = 73) (by decide) ?_
          refine k_iadd dX12_next_73 (rfl : 73 + 1 = 74) ?_
          refine k_iret rfl rfl dX12_next_74 (Nat.le_of_ble_eq_true rfl) (Nat.le_of_ble_eq_true rfl) ?_
          exact kRt_of (congrArg (fun z => some (Value.int z)) (Eq.symm (Eq.trans (if_pos (show a2 = 0 from b11)) (Eq.trans (if_pos (show a2 < 3 from b30)) (Eq.trans (if_pos (show a2 < 1 from b43)) (if_neg (show ¬ (a2 < 5) from b56))))))) rfl
      · refine k_iload_n (i := 1) dX12_next_46 (rfl : 46 + 1 = 47) rfl rfl ?_
        refine k_iconst (v := 3) dX12_next_47 (rfl : 47 + 1 = 48) (by decide) ?_
        refine k_icmp_gt (tgt := 54) dX12_next_48 (rfl : 48 + 3 = 51) (by decide) (fun b48 => ?_) (fun b48 => ?_)
        · refine k_iload_n (i := 1) dX12_next_54 (rfl : 54 + 1 = 55) rfl rfl ?_
          refine k_iconst (v := 5) dX12_next_55 (rfl : 55 + 1 = 56) (by decide) ?_
          refine k_icmp_lt (tgt := 62) dX12_next_56 (rfl : 56 + 3 = 59) (by decide) (fun b56 => ?_) (fun b56 => ?_)
          · refine k_bipush (v := 8) dX12_next_62 (rfl : 62 + 2 = 64) (by decide) ?_
            refine k_iload_n (i := 3) dX12_next_64 (rfl : 64 + 1 = 65) rfl rfl ?_
            refine k_bipush (v := 8) dX12_next_65 (rfl : 65 + 2 = 67) (by decide) ?_
            refine k_irem dX12_next_67 (rfl : 67 + 1 = 68) (by decide) ?_
            refine k_imul dX12_next_68 (rfl : 68 + 1 = 69) ?_
            refine k_iload_n (i := 2) dX12_next_69 (rfl : 69 + 1 = 70) rfl rfl ?_
            refine k_bipush (v := 8) dX12_next_70 (rfl : 70 + 2 = 72) (by decide) ?_
            refine k_irem dX12_next_72 (rfl : 72 + 1 = 73) (by decide) ?_
            refine k_iadd dX12_next_73 (rfl : 73 + 1 = 74) ?_
            refine k_iret rfl rfl dX12_next_74 (Nat.le_of_ble_eq_true rfl) (Nat.le_of_ble_eq_true rfl) ?_
            exact kRt_of (congrArg (fun z => some (Value.int z)) (Eq.symm (Eq.trans (if_pos (show a2 = 0 from b11)) (Eq.trans (if_pos (show a2 < 3 from b30)) (Eq.trans (if_neg (show ¬ (a2 < 1) from b43)) (Eq.trans (if_pos (show 3 < a2 from b48)) (if_pos (show a2 < 5 from b56)))))))) rfl
          · refine k_iinc (i := 3) dX12_next_59 (rfl : 59 + 3 = 62) rfl (Nat.le_of_ble_eq_true rfl) rfl ?_
            refine k_ls (ls2 := [.int a1, .int a2, .int ((a1 - a1 / 8 * 8) + Int32.ofInt 1), .int ((a1 / 8) + Int32.ofInt 7)]) rfl ?_
            refine k_bipush (v := 8) dX12_next_62 (rfl : 62 + 2 = 64) (by decide) ?_
            refine k_iload_n (i := 3) dX12_next_64 (rfl : 64 + 1 = 65) rfl rfl ?_
            refine k_bipush (v := 8) dX12_next_65 (rfl : 65 + 2 = 67) (by decide) ?_
            refine k_irem dX12_next_67 (rfl : 67 + 1 = 68) (by decide) ?_
            refine k_imul dX12_next_68 (rfl : 68 + 1 = 69) ?_
            refine k_iload_n (i := 2) dX12_next_69 (rfl : 69 + 1 = 70) rfl rfl ?_
            refine k_bipush (v := 8) dX12_next_70 (rfl : 70 + 2 = 72) (by decide) ?_
            refine k_irem dX12_next_72 (rfl : 72 + 1 = 73) (by decide) ?_
            refine k_iadd dX12_next_73 (rfl : 73 + 1 = 74) ?_
            refine k_iret rfl rfl dX12_next_74 (Nat.le_of_ble_eq_true rfl) (Nat.le_of_ble_eq_true rfl) ?_
            exact kRt_of (congrArg (fun z => some (Value.int z)) (Eq.symm (Eq.trans (if_pos (show a2 = 0 from b11)) (Eq.trans (if_pos (show a2 < 3 from b30)) (Eq.trans (if_neg (show ¬ (a2 < 1) from b43)) (Eq.trans (if_pos (show 3 < a2 from b48)) (if_neg (show ¬ (a2 < 5) from b56)))))))) rfl
        · refine k_iinc (i := 3) dX12_next_51 (rfl : 51 + 3 = 54) rfl (Nat.le_of_ble_eq_true rfl) rfl ?_
          refine k_ls (ls2 := [.int a1, .int a2, .int ((a1 - a1 / 8 * 8) + Int32.ofInt 1), .int ((a1 / 8) + Int32.ofInt 1)]) rfl ?_
          refine k_iload_n (i := 1) dX12_next_54 (rfl : 54 + 1 = 55) rfl rfl ?_
          refine k_iconst (v := 5) dX12_next_55 (rfl : 55 + 1 = 56) (by decide) ?_
          refine k_icmp_lt (tgt := 62) dX12_next_56 (rfl : 56 + 3 = 59) (by decide) (fun b56 => ?_) (fun b56 => ?_)
          · refine k_bipush (v := 8) dX12_next_62 (rfl : 62 + 2 = 64) (by decide) ?_
            refine k_iload_n (i := 3) dX12_next_64 (rfl : 64 + 1 = 65) rfl rfl ?_
            refine k_bipush (v := 8) dX12_next_65 (rfl : 65 + 2 = 67) (by decide) ?_
            refine k_irem dX12_next_67 (rfl : 67 + 1 = 68) (by decide) ?_
            refine k_imul dX12_next_68 (rfl : 68 + 1 = 69) ?_
            refine k_iload_n (i := 2) dX12_next_69 (rfl : 69 + 1 = 70) rfl rfl ?_
            refine k_bipush (v := 8) dX12_next_70 (rfl : 70 + 2 = 72) (by decide) ?_
            refine k_irem dX12_next_72 (rfl : 72 + 1 = 73) (by decide) ?_
            refine k_iadd dX12_next_73 (rfl : 73 + 1 = 74) ?_
            refine k_iret rfl rfl dX12_next_74 (Nat.le_of_ble_eq_true rfl) (Nat.le_of_ble_eq_true rfl) ?_
            exact kRt_of (congrArg (fun z => some (Value.int z)) (Eq.symm (Eq.trans (if_pos (show a2 = 0 from b11)) (Eq.trans (if_pos (show a2 < 3 from b30)) (Eq.trans (if_neg (show ¬ (a2 < 1) from b43)) (Eq.trans (if_neg (show ¬ (3 < a2) from b48)) (if_pos (show a2 < 5 from b56)))))))) rfl
          · refine k_iinc (i := 3) dX12_next_59 (rfl : 59 + 3 = 62) rfl (Nat.le_of_ble_eq_true rfl) rfl ?_
            refine k_ls (ls2 := [.int a1, .int a2, .int ((a1 - a1 / 8 * 8) + Int32.ofInt 1), .int (((a1 / 8) + Int32.ofInt 1) + Int32.ofInt 7)]) rfl ?_
            refine k_bipush (v := 8) dX12_next_62 (rfl : 62 + 2 = 64) (by decide) ?_
            refine k_iload_n (i := 3) dX12_next_64 (rfl : 64 + 1 = 65) rfl rfl ?_
            refine k_bipush (v := 8) dX12_next_65 (rfl : 65 + 2 = 67) (by decide) ?_
            refine k_irem dX12_next_67 (rfl : 67 + 1 = 68) (by decide) ?_
            refine k_imul dX12_next_68 (rfl : 68 + 1 = 69) ?_
            refine k_iload_n (i := 2) dX12_next_69 (rfl : 69 + 1 = 70) rfl rfl ?_
            refine k_bipush (v := 8) dX12_next_70 (rfl : 70 + 2 = 72) (by decide) ?_
            refine k_irem dX12_next_72 (rfl : 72 + 1 = 73) (by decide) ?_
            refine k_iadd dX12_next_73 (rfl : 73 + 1 = 74) ?_
            refine k_iret rfl rfl dX12_next_74 (Nat.le_of_ble_eq_true rfl) (Nat.le_of_ble_eq_true rfl) ?_
            exact kRt_of (congrArg (fun z => some (Value.int z)) (Eq.symm (Eq.trans (if_pos (show a2 = 0 from b11)) (Eq.trans (if_pos (show a2 < 3 from b30)) (Eq.trans (if_neg (show ¬ (a2 < 1) from b43)) (Eq.trans (if_neg (show ¬ (3 < a2) from b48)) (if_neg (show ¬ (a2 < 5) from b56)))))))) rfl
    · refine k_iload_n (i := 1) dX12_next_33 (rfl : 33 + 1 = 34) rfl rfl ?_
      refine k_iconst (v := 5) dX12_next_34 (rfl : 34 + 1 = 35) (by decide) ?_
      refine k_icmp_gt (tgt := 41) dX12_next_35 (rfl : 35 + 3 = 38) (by decide) (fun b35 => ?_) (fun b35 => ?_)
      · refine k_iload_n (i := 1) dX12_next_41 (rfl : 41 + 1 = 42) rfl rfl ?_
        refine k_iconst (v := 1) dX12_next_42 (rfl : 42 + 1 = 43) (by decide) ?_
        refine k_icmp_lt (tgt := 54) dX12_next_43 (rfl : 43 + 3 = 46) (by decide) (fun b43 => ?_) (fun b43 => ?_)
        · refine k_iload_n (i := 1) dX12_next_54 (rfl : 54 + 1 = 55) rfl rfl ?_
          refine k_iconst (v := 5) dX12_next_55 (rfl : 55 + 1 = 56) (by decide) ?_
          refine k_icmp_lt (tgt := 62) dX12_next_56 (rfl : 56 + 3 = 59) (by decide) (fun b56 => ?_) (fun b56 => ?_)
          · refine k_bipush (v := 8) dX12_next_62 (rfl : 62 + 2 = 64) (by decide) ?_
            refine k_iload_n (i := 3) dX12_next_64 (rfl : 64 + 1 = 65) rfl rfl ?_
            refine k_bipush (v := 8) dX12_next_65 (rfl : 65 + 2 = 67) (by decide) ?_
            refine k_irem dX12_next_67 (rfl : 67 + 1 = 68) (by decide) ?_
            refine k_imul dX12_next_68 (rfl : 68 + 1 = 69) ?_
            refine k_iload_n (i := 2) dX12_next_69 (rfl : 69 + 1 = 70) rfl rfl ?_
            refine k_bipush (v := 8) dX12_next_70 (rfl : 70 + 2 = 72) (by decide) ?_
            refine k_irem dX12_next_72 (rfl : 72 + 1 = 73) (by decide) ?_
            refine k_iadd dX12_next_73 (rfl : 73 + 1 = 74) ?_
            refine k_iret rfl rfl dX12_next_74 (Nat.le_of_ble_eq_true rfl) (Nat.le_of_ble_eq_true rfl) ?_
            exact kRt_of (congrArg (fun z => some (Value.int z)) (Eq.symm (Eq.trans (if_pos (show a2 = 0 from b11)) (Eq.trans (if_neg (show ¬ (a2 < 3) from b30)) (Eq.trans (if_pos (show 5 < a2 from b35)) (Eq.trans (if_pos (show a2 < 1 from b43)) (if_pos (show a2 < 5 from b56)))))))) rfl
          · refine k_iinc (i := 3) dX12_next_59 (rfl : 59 + 3 = 62) rfl (Nat.le_of_ble_eq_true rfl) rfl ?_
            refine k_ls (ls2 := [.int a1, .int a2, .int ((a1 - a1 / 8 * 8) + Int32.ofInt 1), .int ((a1 / 8) + Int32.ofInt 7)]) rfl ?_
            refine k_bipush (v := 8) dX12_next_62 (rfl : 62 + 2 = 64) (by decide) ?_
            refine k_iload_n (i := 3) dX12_next_64 (rfl : 64 + 1 = 65) rfl rfl ?_
            refine k_bipush (v := 8) dX12_next_65 (rfl : 65 + 2 = 67) (by decide) ?_
            refine k_irem dX12_next_67 (rfl : 67 + 1 = 68) (by decide) ?_
            refine k_imul dX12_next_68 (rfl : 68 + 1 = 69) ?_
            refine k_iload_n (i := 2) dX12_next_69 (rfl : 69 + 1 = 70) rfl rfl ?_
            refine k_bipush (v := 8) dX12_next_70 (rfl : 70 + 2 = 72) (by decide) ?_
            refine k_irem dX12_next_72 (rfl : 72 + 1 = 73) (by decide) ?_
            refine k_iadd dX12_next_73 (rfl : 73 + 1 = 74) ?_
            refine k_iret rfl rfl dX12_next_74 (Nat.le_of_ble_eq_true rfl) (Nat.le_of_ble_eq_true rfl) ?_
            exact kRt_of (congrArg (fun z => some (Value.int z)) (Eq.symm (Eq.trans (if_pos (show a2 = 0 from b11)) (Eq.trans (if_neg (show ¬ (a2 < 3) from b30)) (Eq.trans (if_pos (show 5 < a2 from b35)) (Eq.trans (if_pos (show a2 < 1 from b43)) (if_neg (show ¬ (a2 < 5) from b56)))))))) rfl
        · refine k_iload_n (i := 1) dX12_next_46 (rfl : 46 + 1 = 47) rfl rfl ?_
          refine k_iconst (v := 3) dX12_next_47 (rfl : 47 + 1 = 48) (by decide) ?_
          refine k_icmp_gt (tgt := 54) dX12_next_48 (rfl : 48 + 3 = 51) (by decide) (fun b48 => ?_) (fun b48 => ?_)
          · refine k_iload_n (i := 1) dX12_next_54 (rfl : 54 + 1 = 55) rfl rfl ?_
            refine k_iconst (v := 5) dX12_next_55 (rfl : 55 + 1 = 56) (by decide) ?_
            refine k_icmp_lt (tgt := 62) dX12_next_56 (rfl : 56 + 3 = 59) (by decide) (fun b56 => ?_) (fun b56 => ?_)
            · refine k_bipush (v := 8) dX12_next_62 (rfl : 62 + 2 = 64) (by decide) ?_
              refine k_iload_n (i := 3) dX12_next_64 (rfl : 64 + 1 = 65) rfl rfl ?_
              refine k_bipush (v := 8) dX12_next_65 (rfl : 65 + 2 = 67) (by decide) ?_
              refine k_irem dX12_next_67 (rfl : 67 + 1 = 68) (by decide) ?_
              refine k_imul dX12_next_68 (rfl : 68 + 1 = 69) ?_
              refine k_iload_n (i := 2) dX12_next_69 (rfl : 69 + 1 = 70) rfl rfl ?_
              refine k_bipush (v := 8) dX12_next_70 (rfl : 70 + 2 = 72) (by decide) ?_
              refine k_irem dX12_next_72 (rfl : 72 + 1 = 73) (by decide) ?_
              refine k_iadd dX12_next_73 (rfl : 73 + 1 = 74) ?_
              refine k_iret rfl rfl dX12_next_74 (Nat.le_of_ble_eq_true rfl) (Nat.le_of_ble_eq_true rfl) ?_
              exact kRt_of (congrArg (fun z => some (Value.int z)) (Eq.symm (Eq.trans (if_pos (show a2 = 0 from b11)) (Eq.trans (if_neg (show ¬ (a2 < 3) from b30)) (Eq.trans (if_pos (show 5 < a2 from b35)) (Eq.trans (if_neg (show ¬ (a2 < 1) from b43)) (Eq.trans (if_pos (show 3 < a2 from b48)) (if_pos (show a2 < 5 from b56))))))))) rfl
            · refine k_iinc (i := 3) dX12_next_59 (rfl : 59 + 3 = 62) rfl (Nat.le_of_ble_eq_true rfl) rfl ?_
              refine k_ls (ls2 := [.int a1, .int a2, .int ((a1 - a1 / 8 * 8) + Int32.ofInt 1), .int ((a1 / 8) + Int32.ofInt 7)]) rfl ?_
              refine k_bipush (v := 8) dX12_next_62 (rfl : 62 + 2 = 64) (by decide) ?_
              refine k_iload_n (i := 3) dX12_next_64 (rfl : 64 + 1 = 65) rfl rfl ?_
              refine k_bipush (v := 8) dX12_next_65 (rfl : 65 + 2 = 67) (by decide) ?_
              refine k_irem dX12_next_67 (rfl : 67 + 1 = 68) (by decide) ?_
              refine k_imul dX12_next_68 (rfl : 68 + 1 = 69) ?_
              refine k_iload_n (i := 2) dX12_next_69 (rfl : 69 + 1 = 70) rfl rfl ?_
              refine k_bipush (v := 8) dX12_next_70 (rfl : 70 + 2 = 72) (by decide) ?_
              refine k_irem dX12_next_72 (rfl : 72 + 1 = 73) (by decide) ?_
              refine k_iadd dX12_next_73 (rfl : 73 + 1 = 74) ?_
              refine k_iret rfl rfl dX12_next_74 (Nat.le_of_ble_eq_true rfl) (Nat.le_of_ble_eq_true rfl) ?_
              exact kRt_of (congrArg (fun z => some (Value.int z)) (Eq.symm (Eq.trans (if_pos (show a2 = 0 from b11)) (Eq.trans (if_neg (show ¬ (a2 < 3) from b30)) (Eq.trans (if_pos (show 5 < a2 from b35)) (Eq.trans (if_neg (show ¬ (a2 < 1) from b43)) (Eq.trans (if_pos (show 3 < a2 from b48)) (if_neg (show ¬ (a2 < 5) from b56))))))))) rfl
          · refine k_iinc (i := 3) dX12_next_51 (rfl : 51 + 3 = 54) rfl (Nat.le_of_ble_eq_true rfl) rfl ?_
            refine k_ls (ls2 := [.int a1, .int a2, .int ((a1 - a1 / 8 * 8) + Int32.ofInt 1), .int ((a1 / 8) + Int32.ofInt 1)]) rfl ?_
            refine k_iload_n (i := 1) dX12_next_54 (rfl : 54 + 1 = 55) rfl rfl ?_
            refine k_iconst (v := 5) dX12_next_55 (rfl : 55 + 1 = 56) (by decide) ?_
            refine k_icmp_lt (tgt := 62) dX12_next_56 (rfl : 56 + 3 = 59) (by decide) (fun b56 => ?_) (fun b56 => ?_)
            · refine k_bipush (v := 8) dX12_next_62 (rfl : 62 + 2 = 64) (by decide) ?_
              refine k_iload_n (i := 3) dX12_next_64 (rfl : 64 + 1 = 65) rfl rfl ?_
              refine k_bipush (v := 8) dX12_next_65 (rfl : 65 + 2 = 67) (by decide) ?_
              refine k_irem dX12_next_67 (rfl : 67 + 1 = 68) (by decide) ?_
              refine k_imul dX12_next_68 (rfl : 68 + 1 = 69) ?_
              refine k_iload_n (i := 2) dX12_next_69 (rfl : 69 + 1 = 70) rfl rfl ?_
              refine k_bipush (v := 8) dX12_next_70 (rfl : 70 + 2 = 72) (by decide) ?_
              refine k_irem dX12_next_72 (rfl : 72 + 1 = 73) (by decide) ?_
              refine k_iadd dX12_next_73 (rfl : 73 + 1 = 74) ?_
              refine k_iret rfl rfl dX12_next_74 (Nat.le_of_ble_eq_true rfl) (Nat.le_of_ble_eq_true rfl) ?_
              exact kRt_of (congrArg (fun z => some (Value.int z)) (Eq.symm (Eq.trans (if_pos (show a2 = 0 from b11)) (Eq.trans (if_neg (show ¬ (a2 < 3) from b30)) (Eq.trans (if_pos (show 5 < a2 from b35)) (Eq.trans (if_neg (show ¬ (a2 < 1) from b43)) (Eq.trans (if_neg (show ¬ (3 < a2) from b48)) (if_pos (show a2 < 5 from b56))))))))) rfl
            · refine k_iinc (i := 3) dX12_next_59 (rfl : 59 + 3 = 62) rfl (Nat.le_of_ble_eq_true rfl) rfl ?_
              refine k_ls (ls2 := [.int a1, .int a2, .int ((a1 - a1 / 8 * 8) + Int32.ofInt 1), .int (((a1 / 8) + Int32.ofInt 1) + Int32.ofInt 7)]) rfl ?_
              refine k_bipush (v := 8) dX12_next_62 (rfl : 62 + 2 = 64) (by decide) ?_
              refine k_iload_n (i := 3) dX12_next_64 (rfl : 64 + 1 = 65) rfl rfl ?_
              refine k_bipush (v := 8) dX12_next_65 (rfl : 65 + 2 = 67) (by decide) ?_
              refine k_irem dX12_next_67 (rfl : 67 + 1 = 68) (by decide) ?_
              refine k_imul dX12_next_68 (rfl : 68 + 1 = 69) ?_
              refine k_iload_n (i := 2) dX12_next_69 (rfl : 69 + 1 = 70) rfl rfl ?_
              refine k_bipush (v := 8) dX12_next_70 (rfl : 70 + 2 = 72) (by decide) ?_
              refine k_irem dX12_next_72 (rfl : 72 + 1 = 73) (by decide) ?_
              refine k_iadd dX12_next_73 (rfl : 73 + 1 = 74) ?_
              refine k_iret rfl rfl dX12_next_74 (Nat.le_of_ble_eq_true rfl) (Nat.le_of_ble_eq_true rfl) ?_
              exact kRt_of (congrArg (fun z => some (Value.int z)) (Eq.symm (Eq.trans (if_pos (show a2 = 0 from b11)) (Eq.trans (if_neg (show ¬ (a2 < 3) from b30)) (Eq.trans (if_pos (show 5 < a2 from b35)) (Eq.trans (if_neg (show ¬ (a2 < 1) from b43)) (Eq.trans (if_neg (show ¬ (3 < a2) from b48)) (if_neg (show ¬ (a2 < 5) from b56))))))))) rfl
      · refine k_iinc (i := 2) dX12_next_38 (rfl : 38 + 3 = 41) rfl (Nat.le_of_ble_eq_true rfl) rfl ?_
        refine k_ls (ls2 := [.int a1, .int a2, .int (((a1 - a1 / 8 * 8) + Int32.ofInt 1) + Int32.ofInt 7), .int (a1 / 8)]) rfl ?_
        refine k_iload_n (i := 1) dX12_next_41 (rfl : 41 + 1 = 42) rfl rfl ?_
        refine k_iconst (v := 1) dX12_next_42 (rfl : 42 + 1 = 43) (by decide) ?_
        refine k_icmp_lt (tgt := 54) dX12_next_43 (rfl : 43 + 3 = 46) (by decide) (fun b43 => ?_) (fun b43 => ?_)
        · refine k_iload_n (i := 1) dX12_next_54 (rfl : 54 + 1 = 55) rfl rfl ?_
          refine k_iconst (v := 5) dX12_next_55 (rfl : 55 + 1 = 56) (by decide) ?_
          refine k_icmp_lt (tgt := 62) dX12_next_56 (rfl : 56 + 3 = 59) (by decide) (fun b56 => ?_) (fun b56 => ?_)
          · refine k_bipush (v := 8) dX12_next_62 (rfl : 62 + 2 = 64) (by decide) ?_
            refine k_iload_n (i := 3) dX12_next_64 (rfl : 64 + 1 = 65) rfl rfl ?_
            refine k_bipush (v := 8) dX12_next_65 (rfl : 65 + 2 = 67) (by decide) ?_
            refine k_irem dX12_next_67 (rfl : 67 + 1 = 68) (by decide) ?_
            refine k_imul dX12_next_68 (rfl : 68 + 1 = 69) ?_
            refine k_iload_n (i := 2) dX12_next_69 (rfl : 69 + 1 = 70) rfl rfl ?_
            refine k_bipush (v := 8) dX12_next_70 (rfl : 70 + 2 = 72) (by decide) ?_
            refine k_irem dX12_next_72 (rfl : 72 + 1 = 73) (by decide) ?_
            refine k_iadd dX12_next_73 (rfl : 73 + 1 = 74) ?_
            refine k_iret rfl rfl dX12_next_74 (Nat.le_of_ble_eq_true rfl) (Nat.le_of_ble_eq_true rfl) ?_
            exact kRt_of (congrArg (fun z => some (Value.int z)) (Eq.symm (Eq.trans (if_pos (show a2 = 0 from b11)) (Eq.trans (if_neg (show ¬ (a2 < 3) from b30)) (Eq.trans (if_neg (show ¬ (5 < a2) from b35)) (Eq.trans (if_pos (show a2 < 1 from b43)) (if_pos (show a2 < 5 from b56)))))))) rfl
          · refine k_iinc (i := 3) dX12_next_59 (rfl : 59 + 3 = 62) rfl (Nat.le_of_ble_eq_true rfl) rfl ?_
            refine k_ls (ls2 := [.int a1, .int a2, .int (((a1 - a1 / 8 * 8) + Int32.ofInt 1) + Int32.ofInt 7), .int ((a1 / 8) + Int32.ofInt 7)]) rfl ?_
            refine k_bipush (v := 8) dX12_next_62 (rfl : 62 + 2 = 64) (by decide) ?_
            refine k_iload_n (i := 3) dX12_next_64 (rfl : 64 + 1 = 65) rfl rfl ?_
            refine k_bipush (v := 8) dX12_next_65 (rfl : 65 + 2 = 67) (by decide) ?_
            refine k_irem dX12_next_67 (rfl : 67 + 1 = 68) (by decide) ?_
            refine k_imul dX12_next_68 (rfl : 68 + 1 = 69) ?_
            refine k_iload_n (i := 2) dX12_next_69 (rfl : 69 + 1 = 70) rfl rfl ?_
            refine k_bipush (v := 8) dX12_next_70 (rfl : 70 + 2 = 72) (by decide) ?_
            refine k_irem dX12_next_72 (rfl : 72 + 1 = 73) (by decide) ?_
            refine k_iadd dX12_next_73 (rfl : 73 + 1 = 74) ?_
            refine k_iret rfl rfl dX12_next_74 (Nat.le_of_ble_eq_true rfl) (Nat.le_of_ble_eq_true rfl) ?_
            exact kRt_of (congrArg (fun z => some (Value.int z)) (Eq.symm (Eq.trans (if_pos (show a2 = 0 from b11)) (Eq.trans (if_neg (show ¬ (a2 < 3) from b30)) (Eq.trans (if_neg (show ¬ (5 < a2) from b35)) (Eq.trans (if_pos (show a2 < 1 from b43)) (if_neg (show ¬ (a2 < 5) from b56)))))))) rfl
        · refine k_iload_n (i := 1) dX12_next_46 (rfl : 46 + 1 = 47) rfl rfl ?_
          refine k_iconst (v := 3) dX12_next_47 (rfl : 47 + 1 = 48) (by decide) ?_
          refine k_icmp_gt (tgt := 54) dX12_next_48 (rfl : 48 + 3 = 51) (by decide) (fun b48 => ?_) (fun b48 => ?_)
          · refine k_iload_n (i := 1) dX12_next_54 (rfl : 54 + 1 = 55) rfl rfl ?_
            refine k_iconst (v := 5) dX12_next_55 (rfl : 55 + 1 = 56) (by decide) ?_
            refine k_icmp_lt (tgt := 62) dX12_next_56 (rfl : 56 + 3 = 59) (by decide) (fun b56 => ?_) (fun b56 => ?_)
            · refine k_bipush (v := 8) dX12_next_62 (rfl : 62 + 2 = 64) (by decide) ?_
              refine k_iload_n (i := 3) dX12_next_64 (rfl : 64 + 1 = 65) rfl rfl ?_
              refine k_bipush (v := 8) dX12_next_65 (rfl : 65 + 2 = 67) (by decide) ?_
              refine k_irem dX12_next_67 (rfl : 67 + 1 = 68) (by decide) ?_
              refine k_imul dX12_next_68 (rfl : 68 + 1 = 69) ?_
              refine k_iload_n (i := 2) dX12_next_69 (rfl : 69 + 1 = 70) rfl rfl ?_
              refine k_bipush (v := 8) dX12_next_70 (rfl : 70 + 2 = 72) (by decide) ?_
              refine k_irem dX12_next_72 (rfl : 72 + 1 = 73) (by decide) ?_
              refine k_iadd dX12_next_73 (rfl : 73 + 1 = 74) ?_
              refine k_iret rfl rfl dX12_next_74 (Nat.le_of_ble_eq_true rfl) (Nat.le_of_ble_eq_true rfl) ?_
              exact kRt_of (congrArg (fun z => some (Value.int z)) (Eq.symm (Eq.trans (if_pos (show a2 = 0 from b11)) (Eq.trans (if_neg (show ¬ (a2 < 3) from b30)) (Eq.trans (if_neg (show ¬ (5 < a2) from b35)) (Eq.trans (if_neg (show ¬ (a2 < 1) from b43)) (Eq.trans (if_pos (show 3 < a2 from b48)) (if_pos (show a2 < 5 from b56))))))))) rfl
            · refine k_iinc (i := 3) dX12_next_59 (rfl : 59 + 3 = 62) rfl (Nat.le_of_ble_eq_true rfl) rfl ?_
              refine k_ls (ls2 := [.int a1, .int a2, .int (((a1 - a1 / 8 * 8) + Int32.ofInt 1) + Int32.ofInt 7), .int ((a1 / 8) + Int32.ofInt 7)]) rfl ?_
              refine k_bipush (v := 8) dX12_next_62 (rfl : 62 + 2 = 64) (by decide) ?_
              refine k_iload_n (i := 3) dX12_next_64 (rfl : 64 + 1 = 65) rfl rfl ?_
              refine k_bipush (v := 8) dX12_next_65 (rfl : 65 + 2 = 67) (by decide) ?_
              refine k_irem dX12_next_67 (rfl : 67 + 1 = 68) (by decide) ?_
              refine k_imul dX12_next_68 (rfl : 68 + 1 = 69) ?_
              refine k_iload_n (i := 2) dX12_next_69 (rfl : 69 + 1 = 70) rfl rfl ?_
              refine k_bipush (v := 8) dX12_next_70 (rfl : 70 + 2 = 72) (by decide) ?_
              refine k_irem dX12_next_72 (rfl : 72 + 1 = 73) (by decide) ?_
              refine k_iadd dX12_next_73 (rfl : 73 + 1 = 74) ?_
              refine k_iret rfl rfl dX12_next_74 (Nat.le_of_ble_eq_true rfl) (Nat.le_of_ble_eq_true rfl) ?_
              exact kRt_of (congrArg (fun z => some (Value.int z)) (Eq.symm (Eq.trans (if_pos (show a2 = 0 from b11)) (Eq.trans (if_neg (show ¬ (a2 < 3) from b30)) (Eq.trans (if_neg (show ¬ (5 < a2) from b35)) (Eq.trans (if_neg (show ¬ (a2 < 1) from b43)) (Eq.trans (if_pos (show 3 < a2 from b48)) (if_neg (show ¬ (a2 < 5) from b56))))))))) rfl
          · refine k_iinc (i := 3) dX12_next_51 (rfl : 51 + 3 = 54) rfl (Nat.le_of_ble_eq_true rfl) rfl ?_
            refine k_ls (ls2 := [.int a1, .int a2, .int (((a1 - a1 / 8 * 8) + Int32.ofInt 1) + Int32.ofInt 7), .int ((a1 / 8) + Int32.ofInt 1)]) rfl ?_
            refine k_iload_n (i := 1) dX12_next_54 (rfl : 54 + 1 = 55) rfl rfl ?_
            refine k_iconst (v := 5) dX12_next_55 (rfl : 55 + 1 = 56) (by decide) ?_
            refine k_icmp_lt (tgt := 62) dX12_next_56 (rfl : 56 + 3 = 59) (by decide) (fun b56 => ?_) (fun b56 => ?_)
            · refine k_bipush (v := 8) dX12_next_62 (rfl : 62 + 2 = 64) (by decide) ?_
              refine k_iload_n (i := 3) dX12_next_64 (rfl : 64 + 1 = 65) rfl rfl ?_
              refine k_bipush (v := 8) dX12_next_65 (rfl : 65 + 2 = 67) (by decide) ?_
              refine k_irem dX12_next_67 (rfl : 67 + 1 = 68) (by decide) ?_
              refine k_imul dX12_next_68 (rfl : 68 + 1 = 69) ?_
              refine k_iload_n (i := 2) dX12_next_69 (rfl : 69 + 1 = 70) rfl rfl ?_
              refine k_bipush (v := 8) dX12_next_70 (rfl : 70 + 2 = 72) (by decide) ?_
              refine k_irem dX12_next_72 (rfl : 72 + 1 = 73) (by decide) ?_
              refine k_iadd dX12_next_73 (rfl : 73 + 1 = 74) ?_
              refine k_iret rfl rfl dX12_next_74 (Nat.le_of_ble_eq_true rfl) (Nat.le_of_ble_eq_true rfl) ?_
              exact kRt_of (congrArg (fun z => some (Value.int z)) (Eq.symm (Eq.trans (if_pos (show a2 = 0 from b11)) (Eq.trans (if_neg (show ¬ (a2 < 3) from b30)) (Eq.trans (if_neg (show ¬ (5 < a2) from b35)) (Eq.trans (if_neg (show ¬ (a2 < 1) from b43)) (Eq.trans (if_neg (show ¬ (3 < a2) from b48)) (if_pos (show a2 < 5 from b56))))))))) rfl
            · refine k_iinc (i := 3) dX12_next_59 (rfl : 59 + 3 = 62) rfl (Nat.le_of_ble_eq_true rfl) rfl ?_
              refine k_ls (ls2 := [.int a1, .int a2, .int (((a1 - a1 / 8 * 8) + Int32.ofInt 1) + Int32.ofInt 7), .int (((a1 / 8) + Int32.ofInt 1) + Int32.ofInt 7)]) rfl ?_
              refine k_bipush (v := 8) dX12_next_62 (rfl : 62 + 2 = 64) (by decide) ?_
              refine k_iload_n (i := 3) dX12_next_64 (rfl : 64 + 1 = 65) rfl rfl ?_
              refine k_bipush (v := 8) dX12_next_65 (rfl : 65 + 2 = 67) (by decide) ?_
              refine k_irem dX12_next_67 (rfl : 67 + 1 = 68) (by decide) ?_
              refine k_imul dX12_next_68 (rfl : 68 + 1 = 69) ?_
              refine k_iload_n (i := 2) dX12_next_69 (rfl : 69 + 1 = 70) rfl rfl ?_
              refine k_bipush (v := 8) dX12_next_70 (rfl : 70 + 2 = 72) (by decide) ?_
              refine k_irem dX12_next_72 (rfl : 72 + 1 = 73) (by decide) ?_
              refine k_iadd dX12_next_73 (rfl : 73 + 1 = 74) ?_
              refine k_iret rfl rfl dX12_next_74 (Nat.le_of_ble_eq_true rfl) (Nat.le_of_ble_eq_true rfl) ?_
              exact kRt_of (congrArg (fun z => some (Value.int z)) (Eq.symm (Eq.trans (if_pos (show a2 = 0 from b11)) (Eq.trans (if_neg (show ¬ (a2 < 3) from b30)) (Eq.trans (if_neg (show ¬ (5 < a2) from b35)) (Eq.trans (if_neg (show ¬ (a2 < 1) from b43)) (Eq.trans (if_neg (show ¬ (3 < a2) from b48)) (if_neg (show ¬ (a2 < 5) from b56))))))))) rfl
  · refine k_iload_n (i := 1) dX12_next_14 (rfl : 14 + 1 = 15) rfl rfl ?_
    refine k_iconst (v := 1) dX12_next_15 (rfl : 15 + 1 = 16) (by decide) ?_
    refine k_icmp_eq (tgt := 25) dX12_next_16 (rfl : 16 + 3 = 19) (by decide) (fun b16 => ?_) (fun b16 => ?_)
    · refine k_iinc (i := 2) dX12_next_25 (rfl : 25 + 3 = 28) rfl (Nat.le_of_ble_eq_true rfl) rfl ?_
      refine k_ls (ls2 := [.int a1, .int a2, .int ((a1 - a1 / 8 * 8) + Int32.ofInt 1), .int (a1 / 8)]) rfl ?_
      refine k_iload_n (i := 1) dX12_next_28 (rfl : 28 + 1 = 29) rfl rfl ?_
      refine k_iconst (v := 3) dX12_next_29 (rfl : 29 + 1 = 30) (by decide) ?_
      refine k_icmp_lt (tgt := 41) dX12_next_30 (rfl : 30 + 3 = 33) (by decide) (fun b30 => ?_) (fun b30 => ?_)
      · refine k_iload_n (i := 1) dX12_next_41 (rfl : 41 + 1 = 42) rfl rfl ?_
        refine k_iconst (v := 1) dX12_next_42 (rfl : 42 + 1 = 43) (by decide) ?_
        refine k_icmp_lt (tgt := 54) dX12_next_43 (rfl : 43 + 3 = 46) (by decide) (fun b43 => ?_) (fun b43 => ?_)
        · refine k_iload_n (i := 1) dX12_next_54 (rfl : 54 + 1 = 55) rfl rfl ?_
          refine k_iconst (v := 5) dX12_next_55 (rfl : 55 + 1 = 56) (by decide) ?_
          refine k_icmp_lt (tgt := 62) dX12_next_56 (rfl : 56 + 3 = 59) (by decide) (fun b56 => ?_) (fun b56 => ?_)
          · refine k_bipush (v := 8) dX12_next_62 (rfl : 62 + 2 = 64) (by decide) ?_
            refine k_iload_n (i := 3) dX12_next_64 (rfl : 64 + 1 = 65) rfl rfl ?_
            refine k_bipush (v := 8) dX12_next_65 (rfl : 65 + 2 = 67) (by decide) ?_
            refine k_irem dX12_next_67 (rfl : 67 + 1 = 68) (by decide) ?_
            refine k_imul dX12_next_68 (rfl : 68 + 1 = 69) ?_
            refine k_iload_n (i := 2) dX12_next_69 (rfl : 69 + 1 = 70) rfl rfl ?_
            refine k_bipush (v := 8) dX12_next_70 (rfl : 70 + 2 = 72) (by decide) ?_
            refine k_irem dX12_next_72 (rfl : 72 + 1 = 73) (by decide) ?_
            refine k_iadd dX12_next_73 (rfl : 73 + 1 = 74) ?_
            refine k_iret rfl rfl dX12_next_74 (Nat.le_of_ble_eq_true rfl) (Nat.le_of_ble_eq_true rfl) ?_
            exact kRt_of (congrArg (fun z => some (Value.int z)) (Eq.symm (Eq.trans (if_neg (show ¬ (a2 = 0) from b11)) (Eq.trans (if_pos (show a2 = 1 from b16)) (Eq.trans (if_pos (show a2 < 3 from b30)) (Eq.trans (if_pos (show a2 < 1 from b43)) (if_pos (show a2 < 5 from b56)))))))) rfl
          · refine k_iinc (i := 3) dX12_next_59 (rfl : 59 + 3 = 62) rfl (Nat.le_of_ble_eq_true rfl) rfl ?_
            refine k_ls (ls2 := [.int a1, .int a2, .int ((a1 - a1 / 8 * 8) + Int32.ofInt 1), .int ((a1 / 8) + Int32.ofInt 7)]) rfl ?_
            refine k_bipush (v := 8) dX12_next_62 (rfl : 62 + 2 = 64) (by decide) ?_
            refine k_iload_n (i := 3) dX12_next_64 (rfl : 64 + 1 = 65) rfl rfl ?_
            refine k_bipush (v := 8) dX12_next_65 (rfl : 65 + 2 = 67) (by decide) ?_
            refine k_irem dX12_next_67 (rfl : 67 + 1 = 68) (by decide) ?_
            refine k_imul dX12_next_68 (rfl : 68 + 1 = 69) ?_
            refine k_iload_n (i := 2) dX12_next_69 (rfl : 69 + 1 = 70) rfl rfl ?_
            refine k_bipush (v := 8) dX12_next_70 (rfl : 70 + 2 = 72) (by decide) ?_
            refine k_irem dX12_next_72 (rfl : 72 + 1 = 73) (by decide) ?_
            refine k_iadd dX12_next_73 (rfl : 73 + 1 = 74) ?_
            refine k_iret rfl rfl dX12_next_74 (Nat.le_of_ble_eq_true rfl) (Nat.le_of_ble_eq_true rfl) ?_
            exact kRt_of (congrArg (fun z => some (Value.int z)) (Eq.symm (Eq.trans (if_neg (show ¬ (a2 = 0) from b11)) (Eq.trans (if_pos (show a2 = 1 from b16)) (Eq.trans (if_pos (show a2 < 3 from b30)) (Eq.trans (if_pos (show a2 < 1 from b43)) (if_neg (show ¬ (a2 < 5) from b56)))))))) rfl
        · refine k_iload_n (i := 1) dX12_next_46 (rfl : 46 + 1 = 47) rfl rfl ?_
          refine k_iconst (v := 3) dX12_next_47 (rfl : 47 + 1 = 48) (by decide) ?_
          refine k_icmp_gt (tgt := 54) dX12_next_48 (rfl : 48 + 3 = 51) (by decide) (fun b48 => ?_) (fun b48 => ?_)
          · refine k_iload_n (i := 1) dX12_next_54 (rfl : 54 + 1 = 55) rfl rfl ?_
            refine k_iconst (v := 5) dX12_next_55 (rfl : 55 + 1 = 56) (by decide) ?_
            refine k_icmp_lt (tgt := 62) dX12_next_56 (rfl : 56 + 3 = 59) (by decide) (fun b56 => ?_) (fun b56 => ?_)
            · refine k_bipush (v := 8) dX12_next_62 (rfl : 62 + 2 = 64) (by decide) ?_
              refine k_iload_n (i := 3) dX12_next_64 (rfl : 64 + 1 = 65) rfl rfl ?_
              refine k_bipush (v := 8) dX12_next_65 (rfl : 65 + 2 = 67) (by decide) ?_
              refine k_irem dX12_next_67 (rfl : 67 + 1 = 68) (by decide) ?_
              refine k_imul dX12_next_68 (rfl : 68 + 1 = 69) ?_
              refine k_iload_n (i := 2) dX12_next_69 (rfl : 69 + 1 = 70) rfl rfl ?_
              refine k_bipush (v := 8) dX12_next_70 (rfl : 70 + 2 = 72) (by decide) ?_
              refine k_irem dX12_next_72 (rfl : 72 + 1 = 73) (by decide) ?_
              refine k_iadd dX12_next_73 (rfl : 73 + 1 = 74) ?_
              refine k_iret rfl rfl dX12_next_74 (Nat.le_of_ble_eq_true rfl) (Nat.le_of_ble_eq_true rfl) ?_
              exact kRt_of (congrArg (fun z => some (Value.int z)) (Eq.symm (Eq.trans (if_neg (show ¬ (a2 = 0) from b11)) (Eq.trans (if_pos (show a2 = 1 from b16)) (Eq.trans (if_pos (show a2 < 3 from b30)) (Eq.trans (if_neg (show ¬ (a2 < 1) from b43)) (Eq.trans (if_pos (show 3 < a2 from b48)) (if_pos (show a2 < 5 from b56))))))))) rfl
            · refine k_iinc (i := 3) dX12_next_59 (rfl : 59 + 3 = 62) rfl (Nat.le_of_ble_eq_true rfl) rfl ?_
              refine k_ls (ls2 := [.int a1, .int a2, .int ((a1 - a1 / 8 * 8) + Int32.ofInt 1), .int ((a1 / 8) + Int32.ofInt 7)]) rfl ?_
              refine k_bipush (v := 8) dX12_next_62 (rfl : 62 + 2 = 64) (by decide) ?_
              refine k_iload_n (i := 3) dX12_next_64 (rfl : 64 + 1 = 65) rfl rfl ?_
              refine k_bipush (v := 8) dX12_next_65 (rfl : 65 + 2 = 67) (by decide) ?_
              refine k_irem dX12_next_67 (rfl : 67 + 1 = 68) (by decide) ?_
              refine k_imul dX12_next_68 (rfl : 68 + 1 = 69) ?_
              refine k_iload_n (i := 2) dX12_next_69 (rfl : 69 + 1 = 70) rfl rfl ?_
              refine k_bipush (v := 8) dX12_next_70 (rfl : 70 + 2 = 72) (by decide) ?_
              refine k_irem dX12_next_72 (rfl : 72 + 1 = 73) (by decide) ?_
              refine k_iadd dX12_next_73 (rfl : 73 + 1 = 74) ?_
              refine k_iret rfl rfl dX12_next_74 (Nat.le_of_ble_eq_true rfl) (Nat.le_of_ble_eq_true rfl) ?_
              exact kRt_of (congrArg (fun z => some (Value.int z)) (Eq.symm (Eq.trans (if_neg (show ¬ (a2 = 0) from b11)) (Eq.trans (if_pos (show a2 = 1 from b16)) (Eq.trans (if_pos (show a2 < 3 from b30)) (Eq.trans (if_neg (show ¬ (a2 < 1) from b43)) (Eq.trans (if_pos (show 3 < a2 from b48)) (if_neg (show ¬ (a2 < 5) from b56))))))))) rfl
          · refine k_iinc (i := 3) dX12_next_51 (rfl : 51 + 3 = 54) rfl (Nat.le_of_ble_eq_true rfl) rfl ?_
            refine k_ls (ls2 := [.int a1, .int a2, .int ((a1 - a1 / 8 * 8) + Int32.ofInt 1), .int ((a1 / 8) + Int32.ofInt 1)]) rfl ?_
            refine k_iload_n (i := 1) dX12_next_54 (rfl : 54 + 1 = 55) rfl rfl ?_
            refine k_iconst (v := 5) dX12_next_55 (rfl : 55 + 1 = 56) (by decide) ?_
            refine k_icmp_lt (tgt := 62) dX12_next_56 (rfl : 56 + 3 = 59) (by decide) (fun b56 => ?_) (fun b56 => ?_)
            · refine k_bipush (v := 8) dX12_next_62 (rfl : 62 + 2 = 64) (by decide) ?_
              refine k_iload_n (i := 3) dX12_next_64 (rfl : 64 + 1 = 65) rfl rfl ?_
              refine k_bipush (v := 8) dX12_next_65 (rfl : 65 + 2 = 67) (by decide) ?_
              refine k_irem dX12_next_67 (rfl : 67 + 1 = 68) (by decide) ?_
              refine k_imul dX12_next_68 (rfl : 68 + 1 = 69) ?_
              refine k_iload_n (i := 2) dX12_next_69 (rfl : 69 + 1 = 70) rfl rfl ?_
              refine k_bipush (v := 8) dX12_next_70 (rfl : 70 + 2 = 72) (by decide) ?_
              refine k_irem dX12_next_72 (rfl : 72 + 1 = 73) (by decide) ?_
              refine k_iadd dX12_next_73 (rfl : 73 + 1 = 74) ?_
              refine k_iret rfl rfl dX12_next_74 (Nat.le_of_ble_eq_true rfl) (Nat.le_of_ble_eq_true rfl) ?_
              exact kRt_of (congrArg (fun z => some (Value.int z)) (Eq.symm (Eq.trans (if_neg (show ¬ (a2 = 0) from b11)) (Eq.trans (if_pos (show a2 = 1 from b16)) (Eq.trans (if_pos (show a2 < 3 from b30)) (Eq.trans (if_neg (show ¬ (a2 < 1) from b43)) (Eq.trans (if_neg (show ¬ (3 < a2) from b48)) (if_pos (show a2 < 5 from b56))))))))) rfl
            · refine k_iinc (i := 3) dX12_next_59 (rfl : 59 + 3 = 62) rfl (Nat.le_of_ble_eq_true rfl) rfl ?_
              refine k_ls (ls2 := [.int a1, .int a2, .int ((a1 - a1 / 8 * 8) + Int32.ofInt 1), .int (((a1 / 8) + Int32.ofInt 1) + Int32.ofInt 7)]) rfl ?_
              refine k_bipush (v := 8) dX12_next_62 (rfl : 62 + 2 = 64) (by decide) ?_
              refine k_iload_n (i := 3) dX12_next_64 (rfl : 64 + 1 = 65) rfl rfl ?_
              refine k_bipush (v := 8) dX12_next_65 (rfl : 65 + 2 = 67) (by decide) ?_
              refine k_irem dX12_next_67 (rfl : 67 + 1 = 68) (by decide) ?_
              refine k_imul dX12_next_68 (rfl : 68 + 1 = 69) ?_
              refine k_iload_n (i := 2) dX12_next_69 (rfl : 69 + 1 = 70) rfl rfl ?_
              refine k_bipush (v := 8) dX12_next_70 (rfl : 70 + 2 = 72) (by decide) ?_
              refine k_irem dX12_next_72 (rfl : 72 + 1 = 73) (by decide) ?_
              refine k_iadd dX12_next_73 (rfl : 73 + 1 = 74) ?_
              refine k_iret rfl rfl dX12_next_74 (Nat.le_of_ble_eq_true rfl) (Nat.le_of_ble_eq_true rfl) ?_
              exact kRt_of (congrArg (fun z => some (Value.int z)) (Eq.symm (Eq.trans (if_neg (show ¬ (a2 = 0) from b11)) (Eq.trans (if_pos (show a2 = 1 from b16)) (Eq.trans (if_pos (show a2 < 3 from b30)) (Eq.trans (if_neg (show ¬ (a2 < 1) from b43)) (Eq.trans (if_neg (show ¬ (3 < a2) from b48)) (if_neg (show ¬ (a2 < 5) from b56))))))))) rfl
      · refine k_iload_n (i := 1) dX12_next_33 (rfl : 33 + 1 = 34) rfl rfl ?_
        refine k_iconst (v := 5) dX12_next_34 (rfl : 34 + 1 = 35) (by decide) ?_
        refine k_icmp_gt (tgt := 41) dX12_next_35 (rfl : 35 + 3 = 38) (by decide) (fun b35 => ?_) (fun b35 => ?_)
        · refine k_iload_n (i := 1) dX12_next_41 (rfl : 41 + 1 = 42) rfl rfl ?_
          refine k_iconst (v := 1) dX12_next_42 (rfl : 42 + 1 = 43) (by decide) ?_
          refine k_icmp_lt (tgt := 54) dX12_next_43 (rfl : 43 + 3 = 46) (by decide) (fun b43 => ?_) (fun b43 => ?_)
          · refine k_iload_n (i := 1) dX12_next_54 (rfl : 54 + 1 = 55) rfl rfl ?_
            refine k_iconst (v := 5) dX12_next_55 (rfl : 55 + 1 = 56) (by decide) ?_
            refine k_icmp_lt (tgt := 62) dX12_next_56 (rfl : 56 + 3 = 59) (by decide) (fun b56 => ?_) (fun b56 => ?_)
            · refine k_bipush (v := 8) dX12_next_62 (rfl : 62 + 2 = 64) (by decide) ?_
              refine k_iload_n (i := 3) dX12_next_64 (rfl : 64 + 1 = 65) rfl rfl ?_
              refine k_bipush (v := 8) dX12_next_65 (rfl : 65 + 2 = 67) (by decide) ?_
              refine k_irem dX12_next_67 (rfl : 67 + 1 = 68) (by decide) ?_
              refine k_imul dX12_next_68 (rfl : 68 + 1 = 69) ?_
              refine k_iload_n (i := 2) dX12_next_69 (rfl : 69 + 1 = 70) rfl rfl ?_
              refine k_bipush (v := 8) dX12_next_70 (rfl : 70 + 2 = 72) (by decide) ?_
              refine k_irem dX12_next_72 (rfl : 72 + 1 = 73) (by decide) ?_
              refine k_iadd dX12_next_73 (rfl : 73 + 1 = 74) ?_
              refine k_iret rfl rfl dX12_next_74 (Nat.le_of_ble_eq_true rfl) (Nat.le_of_ble_eq_true rfl) ?_
              exact kRt_of (congrArg (fun z => some (Value.int z)) (Eq.symm (Eq.trans (if_neg (show ¬ (a2 = 0) from b11)) (Eq.trans (if_pos (show a2 = 1 from b16)) (Eq.trans (if_neg (show ¬ (a2 < 3) from b30)) (Eq.trans (if_pos (show 5 < a2 from b35)) (Eq.trans (if_pos (show a2 < 1 from b43)) (if_pos (show a2 < 5 from b56))))))))) rfl
            · refine k_iinc (i := 3) dX12_next_59 (rfl : 59 + 3 = 62) rfl (Nat.le_of_ble_eq_true rfl) rfl ?_
              refine k_ls (ls2 := [.int a1, .int a2, .int ((a1 - a1 / 8 * 8) + Int32.ofInt 1), .int ((a1 / 8) + Int32.ofInt 7)]) rfl ?_
              refine k_bipush (v := 8) dX12_next_62 (rfl : 62 + 2 = 64) (by decide) ?_
              refine k_iload_n (i := 3) dX12_next_64 (rfl : 64 + 1 = 65) rfl rfl ?_
              refine k_bipush (v := 8) dX12_next_65 (rfl : 65 + 2 = 67) (by decide) ?_
              refine k_irem dX12_next_67 (rfl : 67 + 1 = 68) (by decide) ?_
              refine k_imul dX12_next_68 (rfl : 68 + 1 = 69) ?_
              refine k_iload_n (i := 2) dX12_next_69 (rfl : 69 + 1 = 70) rfl rfl ?_
              refine k_bipush (v := 8) dX12_next_70 (rfl : 70 + 2 = 72) (by decide) ?_
              refine k_irem dX12_next_72 (rfl : 72 + 1 = 73) (by decide) ?_
              refine k_iadd dX12_next_73 (rfl : 73 + 1 = 74) ?_
              refine k_iret rfl rfl dX12_next_74 (Nat.le_of_ble_eq_true rfl) (Nat.le_of_ble_eq_true rfl) ?_
              exact kRt_of (congrArg (fun z => some (Value.int z)) (Eq.symm (Eq.trans (if_neg (show ¬ (a2 = 0) from b11)) (Eq.trans (if_pos (show a2 = 1 from b16)) (Eq.trans (if_neg (show ¬ (a2 < 3) from b30)) (Eq.trans (if_pos (show 5 < a2 from b35)) (Eq.trans (if_pos (show a2 < 1 from b43)) (if_neg (show ¬ (a2 < 5) from b56))))))))) rfl
          · refine k_iload_n (i := 1) dX12_next_46 (rfl : 46 + 1 = 47) rfl rfl ?_
            refine k_iconst (v := 3) dX12_next_47 (rfl : 47 + 1 = 48) (by decide) ?_
            refine k_icmp_gt (tgt := 54) dX12_next_48 (rfl : 48 + 3 = 51) (by decide) (fun b48 => ?_) (fun b48 => ?_)
            · refine k_iload_n (i := 1) dX12_next_54 (rfl : 54 + 1 = 55) rfl rfl ?_
              refine k_iconst (v := 5) dX12_next_55 (rfl : 55 + 1 = 56) (by decide) ?_
              refine k_icmp_lt (tgt := 62) dX12_next_56 (rfl : 56 + 3 = 59) (by decide) (fun b56 => ?_) (fun b56 => ?_)
              · refine k_bipush (v := 8) dX12_next_62 (rfl : 62 + 2 = 64) (by decide) ?_
                refine k_iload_n (i := 3) dX12_next_64 (rfl : 64 + 1 = 65) rfl rfl ?_
                refine k_bipush (v := 8) dX12_next_65 (rfl : 65 + 2 = 67) (by decide) ?_
                refine k_irem dX12_next_67 (rfl : 67 + 1 = 68) (by decide) ?_
                refine k_imul dX12_next_68 (rfl : 68 + 1 = 69) ?_
                refine k_iload_n (i := 2) dX12_next_69 (rfl : 69 + 1 = 70) rfl rfl ?_
                refine k_bipush (v := 8) dX12_next_70 (rfl : 70 + 2 = 72) (by decide) ?_
                refine k_irem dX12_next_72 (rfl : 72 + 1 = 73) (by decide) ?_
                refine k_iadd dX12_next_73 (rfl : 73 + 1 = 74) ?_
                refine k_iret rfl rfl dX12_next_74 (Nat.le_of_ble_eq_true rfl) (Nat.le_of_ble_eq_true rfl) ?_
                exact kRt_of (congrArg (fun z => some (Value.int z)) (Eq.symm (Eq.trans (if_neg (show ¬ (a2 = 0) from b11)) (Eq.trans (if_pos (show a2 = 1 from b16)) (Eq.trans (if_neg (show ¬ (a2 < 3) from b30)) (Eq.trans (if_pos (show 5 < a2 from b35)) (Eq.trans (if_neg (show ¬ (a2 < 1) from b43)) (Eq.trans (if_pos (show 3 < a2 from b48)) (if_pos (show a2 < 5 from b56)))))))))) rfl
              · refine k_iinc (i := 3) dX12_next_59 (rfl : 59 + 3 = 62) rfl (Nat.le_of_ble_eq_true rfl) rfl ?_
                refine k_ls (ls2 := [.int a1, .int a2, .int ((a1 - a1 / 8 * 8) + Int32.ofInt 1), .int ((a1 / 8) + Int32.ofInt 7)]) rfl ?_
                refine k_bipush (v := 8) dX12_next_62 (rfl : 62 + 2 = 64) (by decide) ?_
                refine k_iload_n (i := 3) dX12_next_64 (rfl : 64 + 1 = 65) rfl rfl ?_
                refine k_bipush (v := 8) dX12_next_65 (rfl : 65 + 2 = 67) (by decide) ?_
                refine k_irem dX12_next_67 (rfl : 67 + 1 = 68) (by decide) ?_
                refine k_imul dX12_next_68 (rfl : 68 + 1 = 69) ?_
                refine k_iload_n (i := 2) dX12_next_69 (rfl : 69 + 1 = 70) rfl rfl ?_
                refine k_bipush (v := 8) dX12_next_70 (rfl : 70 + 2 = 72) (by decide) ?_
                refine k_irem dX12_next_72 (rfl : 72 + 1 = 73) (by decide) ?_
                refine k_iadd dX12_next_73 (rfl : 73 + 1 = 74) ?_
                refine k_iret rfl rfl dX12_next_74 (Nat.le_of_ble_eq_true rfl) (Nat.le_of_ble_eq_true rfl) ?_
                exact kRt_of (congrArg (fun z => some (Value.int z)) (Eq.symm (Eq.trans (if_neg (show ¬ (a2 = 0) from b11)) (Eq.trans (if_pos (show a2 = 1 from b16)) (Eq.trans (if_neg (show ¬ (a2 < 3) from b30)) (Eq.trans (if_pos (show 5 < a2 from b35)) (Eq.trans (if_neg (show ¬ (a2 < 1) from b43)) (Eq.trans (if_pos (show 3 < a2 from b48)) (if_neg (show ¬ (a2 < 5) from b56)))))))))) rfl
            · refine k_iinc (i := 3) dX12_next_51 (rfl : 51 + 3 = 54) rfl (Nat.le_of_ble_eq_true rfl) rfl ?_
              refine k_ls (ls2 := [.int a1, .int a2, .int ((a1 - a1 / 8 * 8) + Int32.ofInt 1), .int ((a1 / 8) + Int32.ofInt 1)]) rfl ?_
              refine k_iload_n (i := 1) dX12_next_54 (rfl : 54 + 1 = 55) rfl rfl ?_
              refine k_iconst (v := 5) dX12_next_55 (rfl : 55 + 1 = 56) (by decide) ?_
              refine k_icmp_lt (tgt := 62) dX12_next_56 (rfl : 56 + 3 = 59) (by decide) (fun b56 => ?_) (fun b56 => ?_)
              · refine k_bipush (v := 8) dX12_next_62 (rfl : 62 + 2 = 64) (by decide) ?_
                refine k_iload_n (i := 3) dX12_next_64 (rfl : 64 + 1 = 65) rfl rfl ?_
                refine k_bipush (v := 8) dX12_next_65 (rfl : 65 + 2 = 67) (by decide) ?_
                refine k_irem dX12_next_67 (rfl : 67 + 1 = 68) (by decide) ?_
                refine k_imul dX12_next_68 (rfl : 68 + 1 = 69) ?_
                refine k_iload_n (i := 2) dX12_next_69 (rfl : 69 + 1 = 70) rfl rfl ?_
                refine k_bipush (v := 8) dX12_next_70 (rfl : 70 + 2 = 72) (by decide) ?_
                refine k_irem dX12_next_72 (rfl : 72 + 1 = 73) (by decide) ?_
                refine k_iadd dX12_next_73 (rfl : 73 + 1 = 74) ?_
                refine k_iret rfl rfl dX12_next_74 (Nat.le_of_ble_eq_true rfl) (Nat.le_of_ble_eq_true rfl) ?_
                exact kRt_of (congrArg (fun z => some (Value.int z)) (Eq.symm (Eq.trans (if_neg (show ¬ (a2 = 0) from b11)) (Eq.trans (if_pos (show a2 = 1 from b16)) (Eq.trans (if_neg (show ¬ (a2 < 3) from b30)) (Eq.trans (if_pos (show 5 < a2 from b35)) (Eq.trans (if_neg (show ¬ (a2 < 1) from b43)) (Eq.trans (if_neg (show ¬ (3 < a2) from b48)) (if_pos (show a2 < 5 from b56)))))))))) rfl
              · refine k_iinc (i := 3) dX12_next_59 (rfl : 59 + 3 = 62) rfl (Nat.le_of_ble_eq_true rfl) rfl ?_
                refine k_ls (ls2 := [.int a1, .int a2, .int ((a1 - a1 / 8 * 8) + Int32.ofInt 1), .int (((a1 / 8) + Int32.ofInt 1) + Int32.ofInt 7)]) rfl ?_
                refine k_bipush (v := 8) dX12_next_62 (rfl : 62 + 2 = 64) (by decide) ?_
                refine k_iload_n (i := 3) dX12_next_64 (rfl : 64 + 1 = 65) rfl rfl ?_
                refine k_bipush (v := 8) dX12_next_65 (rfl : 65 + 2 = 67) (by decide) ?_
                refine k_irem dX12_next_67 (rfl : 67 + 1 = 68) (by decide) ?_
                refine k_imul dX12_next_68 (rfl : 68 + 1 = 69) ?_
                refine k_iload_n (i := 2) dX12_next_69 (rfl : 69 + 1 = 70) rfl rfl ?_
                refine k_bipush (v := 8) dX12_next_70 (rfl : 70 + 2 = 72) (by decide) ?_
                refine k_irem dX12_next_72 (rfl : 72 + 1 = 73) (by decide) ?_
                refine k_iadd dX12_next_73 (rfl : 73 + 1 = 74) ?_
                refine k_iret rfl rfl dX12_next_74 (Nat.le_of_ble_eq_true rfl) (Nat.le_of_ble_eq_true rfl) ?_
                exact kRt_of (congrArg (fun z => some (Value.int z)) (Eq.symm (Eq.trans (if_neg (show ¬ (a2 = 0) from b11)) (Eq.trans (if_pos (show a2 = 1 from b16)) (Eq.trans (if_neg (show ¬ (a2 < 3) from b30)) (Eq.trans (if_pos (show 5 < a2 from b35)) (Eq.trans (if_neg (show ¬ (a2 < 1) from b43)) (Eq.trans (if_neg (show ¬ (3 < a2) from b48)) (if_neg (show ¬ (a2 < 5) from b56)))))))))) rfl
        · refine k_iinc (i := 2) dX12_next_38 (rfl : 38 + 3 = 41) rfl (Nat.le_of_ble_eq_true rfl) rfl ?_
          refine k_ls (ls2 := [.int a1, .int a2, .int (((a1 - a1 / 8 * 8) + Int32.ofInt 1) + Int32.ofInt 7), .int (a1 / 8)]) rfl ?_
          refine k_iload_n (i := 1) dX12_next_41 (rfl : 41 + 1 = 42) rfl rfl ?_
          refine k_iconst (v := 1) dX12_next_42 (rfl : 42 + 1 = 43) (by decide) ?_
          refine k_icmp_lt (tgt := 54) dX12_next_43 (rfl : 43 + 3 = 46) (by decide) (fun b43 => ?_) (fun b43 => ?_)
          · refine k_iload_n (i := 1) dX12_next_54 (rfl : 54 + 1 = 55) rfl rfl ?_
            refine k_iconst (v := 5) dX12_next_55 (rfl : 55 + 1 = 56) (by decide) ?_
            refine k_icmp_lt (tgt := 62) dX12_next_56 (rfl : 56 + 3 = 59) (by decide) (fun b56 => ?_) (fun b56 => ?_)
            · refine k_bipush (v := 8) dX12_next_62 (rfl : 62 + 2 = 64) (by decide) ?_
              refine k_iload_n (i := 3) dX12_next_64 (rfl : 64 + 1 = 65) rfl rfl ?_
              refine k_bipush (v := 8) dX12_next_65 (rfl : 65 + 2 = 67) (by decide) ?_
              refine k_irem dX12_next_67 (rfl : 67 + 1 = 68) (by decide) ?_
              refine k_imul dX12_next_68 (rfl : 68 + 1 = 69) ?_
              refine k_iload_n (i := 2) dX12_next_69 (rfl : 69 + 1 = 70) rfl rfl ?_
              refine k_bipush (v := 8) dX12_next_70 (rfl : 70 + 2 = 72) (by decide) ?_
              refine k_irem dX12_next_72 (rfl : 72 + 1 = 73) (by decide) ?_
              refine k_iadd dX12_next_73 (rfl : 73 + 1 = 74) ?_
              refine k_iret rfl rfl dX12_next_74 (Nat.le_of_ble_eq_true rfl) (Nat.le_of_ble_eq_true rfl) ?_
              exact kRt_of (congrArg (fun z => some (Value.int z)) (Eq.symm (Eq.trans (if_neg (show ¬ (a2 = 0) from b11)) (Eq.trans (if_pos (show a2 = 1 from b16)) (Eq.trans (if_neg (show ¬ (a2 < 3) from b30)) (Eq.trans (if_neg (show ¬ (5 < a2) from b35)) (Eq.trans (if_pos (show a2 < 1 from b43)) (if_pos (show a2 < 5 from b56))))))))) rfl
            · refine k_iinc (i := 3) dX12_next_59 (rfl : 59 + 3 = 62) rfl (Nat.le_of_ble_eq_true rfl) rfl ?_
              refine k_ls (ls2 := [.int a1, .int a2, .int (((a1 - a1 / 8 * 8) + Int32.ofInt 1) + Int32.ofInt 7), .int ((a1 / 8) + Int32.ofInt 7)]) rfl ?_
              refine k_bipush (v := 8) dX12_next_62 (rfl : 62 + 2 = 64) (by decide) ?_
              refine k_iload_n (i := 3) dX12_next_64 (rfl : 64 + 1 = 65) rfl rfl ?_
              refine k_bipush (v := 8) dX12_next_65 (rfl : 65 + 2 = 67) (by decide) ?_
              refine k_irem dX12_next_67 (rfl : 67 + 1 = 68) (by decide) ?_
              refine k_imul dX12_next_68 (rfl : 68 + 1 = 69) ?_
              refine k_iload_n (i := 2) dX12_next_69 (rfl : 69 + 1 = 70) rfl rfl ?_
              refine k_bipush (v := 8) dX12_next_70 (rfl : 70 + 2 = 72) (by decide) ?_
              refine k_irem dX12_next_72 (rfl : 72 + 1 = 73) (by decide) ?_
              refine k_iadd dX12_next_73 (rfl : 73 + 1 = 74) ?_
              refine k_iret rfl rfl dX12_next_74 (Nat.le_of_ble_eq_true rfl) (Nat.le_of_ble_eq_true rfl) ?_
              exact kRt_of (congrArg (fun z => some (Value.int z)) (Eq.symm (Eq.trans (if_neg (show ¬ (a2 = 0) from b11)) (Eq.trans (if_pos (show a2 = 1 from b16)) (Eq.trans (if_neg (show ¬ (a2 < 3) from b30)) (Eq.trans (if_neg (show ¬ (5 < a2) from b35)) (Eq.trans (if_pos (show a2 < 1 from b43)) (if_neg (show ¬ (a2 < 5) from b56))))))))) rfl
          · refine k_iload_n (i := 1) dX12_next_46 (rfl : 46 + 1 = 47) rfl rfl ?_
            refine k_iconst (v := 3) dX12_next_47 (rfl : 47 + 1 = 48) (by decide) ?_
            refine k_icmp_gt (tgt := 54) dX12_next_48 (rfl : 48 + 3 = 51) (by decide) (fun b48 => ?_) (fun b48 => ?_)
            · refine k_iload_n (i := 1) dX12_next_54 (rfl : 54 + 1 = 55) rfl rfl ?_
              refine k_iconst (v := 5) dX12_next_55 (rfl : 55 + 1 = 56) (by decide) ?_
              refine k_icmp_lt (tgt := 62) dX12_next_56 (rfl : 56 + 3 = 59) (by decide) (fun b56 => ?_) (fun b56 => ?_)
              · refine k_bipush (v := 8) dX12_next_62 (rfl : 62 + 2 = 64) (by decide) ?_
                refine k_iload_n (i := 3) dX12_next_64 (rfl : 64 + 1 = 65) rfl rfl ?_
                refine k_bipush (v := 8) dX12_next_65 (rfl : 65 + 2 = 67) (by decide) ?_
                refine k_irem dX12_next_67 (rfl : 67 + 1 = 68) (by decide) ?_
                refine k_imul dX12_next_68 (rfl : 68 + 1 = 69) ?_
                refine k_iload_n (i := 2) dX12_next_69 (rfl : 69 + 1 = 70) rfl rfl ?_
                refine k_bipush (v := 8) dX12_next_70 (rfl : 70 + 2 = 72) (by decide) ?_
                refine k_irem dX12_next_72 (rfl : 72 + 1 = 73) (by decide) ?_
                refine k_iadd dX12_next_73 (rfl : 73 + 1 = 74) ?_
                refine k_iret rfl rfl dX12_next_74 (Nat.le_of_ble_eq_true rfl) (Nat.le_of_ble_eq_true rfl) ?_
                exact kRt_of (congrArg (fun z => some (Value.int z)) (Eq.symm (Eq.trans (if_neg (show ¬ (a2 = 0) from b11)) (Eq.trans (if_pos (show a2 = 1 from b16)) (Eq.trans (if_neg (show ¬ (a2 < 3) from b30)) (Eq.trans (if_neg (show ¬ (5 < a2) from b35)) (Eq.trans (if_neg (show ¬ (a2 < 1) from b43)) (Eq.trans (if_pos (show 3 < a2 from b48)) (if_pos (show a2 < 5 from b56)))))))))) rfl
              · refine k_iinc (i := 3) dX12_next_59 (rfl : 59 + 3 = 62) rfl (Nat.le_of_ble_eq_true rfl) rfl ?_
                refine k_ls (ls2 := [.int a1, .int a2, .int (((a1 - a1 / 8 * 8) + Int32.ofInt 1) + Int32.ofInt 7), .int ((a1 / 8) + Int32.ofInt 7)]) rfl ?_
                refine k_bipush (v := 8) dX12_next_62 (rfl : 62 + 2 = 64) (by decide) ?_
                refine k_iload_n (i := 3) dX12_next_64 (rfl : 64 + 1 = 65) rfl rfl ?_
                refine k_bipush (v := 8) dX12_next_65 (rfl : 65 + 2 = 67) (by decide) ?_
                refine k_irem dX12_next_67 (rfl : 67 + 1 = 68) (by decide) ?_
                refine k_imul dX12_next_68 (rfl : 68 + 1 = 69) ?_
                refine k_iload_n (i := 2) dX12_next_69 (rfl : 69 + 1 = 70) rfl rfl ?_
                refine k_bipush (v := 8) dX12_next_70 (rfl : 70 + 2 = 72) (by decide) ?_
                refine k_irem dX12_next_72 (rfl : 72 + 1 = 73) (by decide) ?_
                refine k_iadd dX12_next_73 (rfl : 73 + 1 = 74) ?_
                refine k_iret rfl rfl dX12_next_74 (Nat.le_of_ble_eq_true rfl) (Nat.le_of_ble_eq_true rfl) ?_
                exact kRt_of (congrArg (fun z => some (Value.int z)) (Eq.symm (Eq.trans (if_neg (show ¬ (a2 = 0) from b11)) (Eq.trans (if_pos (show a2 = 1 from b16)) (Eq.trans (if_neg (show ¬ (a2 < 3) from b30)) (Eq.trans (if_neg (show ¬ (5 < a2) from b35)) (Eq.trans (if_neg (show ¬ (a2 < 1) from b43)) (Eq.trans (if_pos (show 3 < a2 from b48)) (if_neg (show ¬ (a2 < 5) from b56)))))))))) rfl
            · refine k_iinc (i := 3) dX12_next_51 (rfl : 51 + 3 = 54) rfl (Nat.le_of_ble_eq_true rfl) rfl ?_
              refine k_ls (ls2 := [.int a1, .int a2, .int (((a1 - a1 / 8 * 8) + Int32.ofInt 1) + Int32.ofInt 7), .int ((a1 / 8) + Int32.ofInt 1)]) rfl ?_
              refine k_iload_n (i := 1) dX12_next_54 (rfl : 54 + 1 = 55) rfl rfl ?_
              refine k_iconst (v := 5) dX12_next_55 (rfl : 55 + 1 = 56) (by decide) ?_
              refine k_icmp_lt (tgt := 62) dX12_next_56 (rfl : 56 + 3 = 59) (by decide) (fun b56 => ?_) (fun b56 => ?_)
              · refine k_bipush (v := 8) dX12_next_62 (rfl : 62 + 2 = 64) (by decide) ?_
                refine k_iload_n (i := 3) dX12_next_64 (rfl : 64 + 1 = 65) rfl rfl ?_
                refine k_bipush (v := 8) dX12_next_65 (rfl : 65 + 2 = 67) (by decide) ?_
                refine k_irem dX12_next_67 (rfl : 67 + 1 = 68) (by decide) ?_
                refine k_imul dX12_next_68 (rfl : 68 + 1 = 69) ?_
                refine k_iload_n (i := 2) dX12_next_69 (rfl : 69 + 1 = 70) rfl rfl ?_
                refine k_bipush (v := 8) dX12_next_70 (rfl : 70 + 2 = 72) (by decide) ?_
                refine k_irem dX12_next_72 (rfl : 72 + 1 = 73) (by decide) ?_
                refine k_iadd dX12_next_73 (rfl : 73 + 1 = 74) ?_
                refine k_iret rfl rfl dX12_next_74 (Nat.le_of_ble_eq_true rfl) (Nat.le_of_ble_eq_true rfl) ?_
                exact kRt_of (congrArg (fun z => some (Value.int z)) (Eq.symm (Eq.trans (if_neg (show ¬ (a2 = 0) from b11)) (Eq.trans (if_pos (show a2 = 1 from b16)) (Eq.trans (if_neg (show ¬ (a2 < 3) from b30)) (Eq.trans (if_neg (show ¬ (5 < a2) from b35)) (Eq.trans (if_neg (show ¬ (a2 < 1) from b43)) (Eq.trans (if_neg (show ¬ (3 < a2) from b48)) (if_pos (show a2 < 5 from b56)))))))))) rfl
              · refine k_iinc (i := 3) dX12_next_59 (rfl : 59 + 3 = 62) rfl (Nat.le_of_ble_eq_true rfl) rfl ?_
                refine k_ls (ls2 := [.int a1, .int a2, .int (((a1 - a1 / 8 * 8) + Int32.ofInt 1) + Int32.ofInt 7), .int (((a1 / 8) + Int32.ofInt 1) + Int32.ofInt 7)]) rfl ?_
                refine k_bipush (v := 8) dX12_next_62 (rfl : 62 + 2 = 64) (by decide) ?_
                refine k_iload_n (i := 3) dX12_next_64 (rfl : 64 + 1 = 65) rfl rfl ?_
                refine k_bipush (v := 8) dX12_next_65 (rfl : 65 + 2 = 67) (by decide) ?_
                refine k_irem dX12_next_67 (rfl : 67 + 1 = 68) (by decide) ?_
                refine k_imul dX12_next_68 (rfl : 68 + 1 = 69) ?_
                refine k_iload_n (i := 2) dX12_next_69 (rfl : 69 + 1 = 70) rfl rfl ?_
                refine k_bipush (v := 8) dX12_next_70 (rfl : 70 + 2 = 72) (by decide) ?_
                refine k_irem dX12_next_72 (rfl : 72 + 1 = 73) (by decide) ?_
                refine k_iadd dX12_next_73 (rfl : 73 + 1 = 74) ?_
                refine k_iret rfl rfl dX12_next_74 (Nat.le_of_ble_eq_true rfl) (Nat.le_of_ble_eq_true rfl) ?_
                exact kRt_of (congrArg (fun z => some (Value.int z)) (Eq.symm (Eq.trans (if_neg (show ¬ (a2 = 0) from b11)) (Eq.trans (if_pos (show a2 = 1 from b16)) (Eq.trans (if_neg (show ¬ (a2 < 3) from b30)) (Eq.trans (if_neg (show ¬ (5 < a2) from b35)) (Eq.trans (if_neg (show ¬ (a2 < 1) from b43)) (Eq.trans (if_neg (show ¬ (3 < a2) from b48)) (if_neg (show ¬ (a2 < 5) from b56)))))))))) rfl
    · refine k_iload_n (i := 1) dX12_next_19 (rfl : 19 + 1 = 20) rfl rfl ?_
      refine k_bipush (v := 7) dX12_next_20 (rfl : 20 + 2 = 22) (by decide) ?_
      refine k_icmp_ne (tgt := 28) dX12_next_22 (rfl : 22 + 3 = 25) (by decide) (fun b22 => ?_) (fun b22 => ?_)
      · refine k_iload_n (i := 1) dX12_next_28 (rfl : 28 + 1 = 29) rfl rfl ?_
        refine k_iconst (v := 3) dX12_next_29 (rfl : 29 + 1 = 30) (by decide) ?_
        refine k_icmp_lt (tgt := 41) dX12_next_30 (rfl : 30 + 3 = 33) (by decide) (fun b30 => ?_) (fun b30 => ?_)
        · refine k_iload_n (i := 1) dX12_next_41 (rfl : 41 + 1 = 42) rfl rfl ?_
          refine k_iconst (v := 1) dX12_next_42 (rfl : 42 + 1 = 43) (by decide) ?_
          refine k_icmp_lt (tgt := 54) dX12_next_43 (rfl : 43 + 3 = 46) (by decide) (fun b43 => ?_) (fun b43 => ?_)
          · refine k_iload_n (i := 1) dX12_next_54 (rfl : 54 + 1 = 55) rfl rfl ?_
            refine k_iconst (v := 5) dX12_next_55 (rfl : 55 + 1 = 56) (by decide) ?_
            refine k_icmp_lt (tgt := 62) dX12_next_56 (rfl : 56 + 3 = 59) (by decide) (fun b56 => ?_) (fun b56 => ?_)
            · refine k_bipush (v := 8) dX12_next_62 (rfl : 62 + 2 = 64) (by decide) ?_
              refine k_iload_n (i := 3) dX12_next_64 (rfl : 64 + 1 = 65) rfl rfl ?_
              refine k_bipush (v := 8) dX12_next_65 (rfl : 65 + 2 = 67) (by decide) ?_
              refine k_irem dX12_next_67 (rfl : 67 + 1 = 68) (by decide) ?_
              refine k_imul dX12_next_68 (rfl : 68 + 1 = 69) ?_
              refine k_iload_n (i := 2) dX12_next_69 (rfl : 69 + 1 = 70) rfl rfl ?_
              refine k_bipush (v := 8) dX12_next_70 (rfl : 70 + 2 = 72) (by decide) ?_
              refine k_irem dX12_next_72 (rfl : 72 + 1 = 73) (by decide) ?_
              refine k_iadd dX12_next_73 (rfl : 73 + 1 = 74) ?_
              refine k_iret rfl rfl dX12_next_74 (Nat.le_of_ble_eq_true rfl) (Nat.le_of_ble_eq_true rfl) ?_
              exact kRt_of (congrArg (fun z => some (Value.int z)) (Eq.symm (Eq.trans (if_neg (show ¬ (a2 = 0) from b11)) (Eq.trans (if_neg (show ¬ (a2 = 1) from b16)) (Eq.trans (if_neg (show ¬ (a2 = 7) from b22)) (Eq.trans (if_pos (show a2 < 3 from b30)) (Eq.trans (if_pos (show a2 < 1 from b43)) (if_pos (show a2 < 5 from b56))))))))) rfl
            · refine k_iinc (i := 3) dX12_next_59 (rfl : 59 + 3 = 62) rfl (Nat.le_of_ble_eq_true rfl) rfl ?_
              refine k_ls (ls2 := [.int a1, .int a2, .int (a1 - a1 / 8 * 8), .int ((a1 / 8) + Int32.ofInt 7)]) rfl ?_
              refine k_bipush (v := 8) dX12_next_62 (rfl : 62 + 2 = 64) (by decide) ?_
              refine k_iload_n (i := 3) dX12_next_64 (rfl : 64 + 1 = 65) rfl rfl ?_
              refine k_bipush (v := 8) dX12_next_65 (rfl : 65 + 2 = 67) (by decide) ?_
              refine k_irem dX12_next_67 (rfl : 67 + 1 = 68) (by decide) ?_
              refine k_imul dX12_next_68 (rfl : 68 + 1 = 69) ?_
              refine k_iload_n (i := 2) dX12_next_69 (rfl : 69 + 1 = 70) rfl rfl ?_
              refine k_bipush (v := 8) dX12_next_70 (rfl : 70 + 2 = 72) (by decide) ?_
              refine k_irem dX12_next_72 (rfl : 72 + 1 = 73) (by decide) ?_
              refine k_iadd dX12_next_73 (rfl : 73 + 1 = 74) ?_
              refine k_iret rfl rfl dX12_next_74 (Nat.le_of_ble_eq_true rfl) (Nat.le_of_ble_eq_true rfl) ?_
              exact kRt_of (congrArg (fun z => some (Value.int z)) (Eq.symm (Eq.trans (if_neg (show ¬ (a2 = 0) from b11)) (Eq.trans (if_neg (show ¬ (a2 = 1) from b16)) (Eq.trans (if_neg (show ¬ (a2 = 7) from b22)) (Eq.trans (if_pos (show a2 < 3 from b30)) (Eq.trans (if_pos (show a2 < 1 from b43)) (if_neg (show ¬ (a2 < 5) from b56))))))))) rfl
          · refine k_iload_n (i := 1) dX12_next_46 (rfl : 46 + 1 = 47) rfl rfl ?_
            refine k_iconst (v := 3) dX12_next_47 (rfl : 47 + 1 = 48) (by decide) ?_
            refine k_icmp_gt (tgt := 54) dX12_next_48 (rfl : 48 + 3 = 51) (by decide) (fun b48 => ?_) (fun b48 => ?_)
            · refine k_iload_n (i := 1) dX12_next_54 (rfl : 54 + 1 = 55) rfl rfl ?_
              refine k_iconst (v := 5) dX12_next_55 (rfl : 55 + 1 = 56) (by decide) ?_
              refine k_icmp_lt (tgt := 62) dX12_next_56 (rfl : 56 + 3 = 59) (by decide) (fun b56 => ?_) (fun b56 => ?_)
              · refine k_bipush (v := 8) dX12_next_62 (rfl : 62 + 2 = 64) (by decide) ?_
                refine k_iload_n (i := 3) dX12_next_64 (rfl : 64 + 1 = 65) rfl rfl ?_
                refine k_bipush (v := 8) dX12_next_65 (rfl : 65 + 2 = 67) (by decide) ?_
                refine k_irem dX12_next_67 (rfl : 67 + 1 = 68) (by decide) ?_
                refine k_imul dX12_next_68 (rfl : 68 + 1 = 69) ?_
                refine k_iload_n (i := 2) dX12_next_69 (rfl : 69 + 1 = 70) rfl rfl ?_
                refine k_bipush (v := 8) dX12_next_70 (rfl : 70 + 2 = 72) (by decide) ?_
                refine k_irem dX12_next_72 (rfl : 72 + 1 = 73) (by decide) ?_
                refine k_iadd dX12_next_73 (rfl : 73 + 1 = 74) ?_
                refine k_iret rfl rfl dX12_next_74 (Nat.le_of_ble_eq_true rfl) (Nat.le_of_ble_eq_true rfl) ?_
                exact kRt_of (congrArg (fun z => some (Value.int z)) (Eq.symm (Eq.trans (if_neg (show ¬ (a2 = 0) from b11)) (Eq.trans (if_neg (show ¬ (a2 = 1) from b16)) (Eq.trans (if_neg (show ¬ (a2 = 7) from b22)) (Eq.trans (if_pos (show a2 < 3 from b30)) (Eq.trans (if_neg (show ¬ (a2 < 1) from b43)) (Eq.trans (if_pos (show 3 < a2 from b48)) (if_pos (show a2 < 5 from b56)))))))))) rfl
              · refine k_iinc (i := 3) dX12_next_59 (rfl : 59 + 3 = 62) rfl (Nat.le_of_ble_eq_true rfl) rfl ?_
                refine k_ls (ls2 := [.int a1, .int a2, .int (a1 - a1 / 8 * 8), .int ((a1 / 8) + Int32.ofInt 7)]) rfl ?_
                refine k_bipush (v := 8) dX12_next_62 (rfl : 62 + 2 = 64) (by decide) ?_
                refine k_iload_n (i := 3) dX12_next_64 (rfl : 64 + 1 = 65) rfl rfl ?_
                refine k_bipush (v := 8) dX12_next_65 (rfl : 65 + 2 = 67) (by decide) ?_
                refine k_irem dX12_next_67 (rfl : 67 + 1 = 68) (by decide) ?_
                refine k_imul dX12_next_68 (rfl : 68 + 1 = 69) ?_
                refine k_iload_n (i := 2) dX12_next_69 (rfl : 69 + 1 = 70) rfl rfl ?_
                refine k_bipush (v := 8) dX12_next_70 (rfl : 70 + 2 = 72) (by decide) ?_
                refine k_irem dX12_next_72 (rfl : 72 + 1 = 73) (by decide) ?_
                refine k_iadd dX12_next_73 (rfl : 73 + 1 = 74) ?_
                refine k_iret rfl rfl dX12_next_74 (Nat.le_of_ble_eq_true rfl) (Nat.le_of_ble_eq_true rfl) ?_
                exact kRt_of (congrArg (fun z => some (Value.int z)) (Eq.symm (Eq.trans (if_neg (show ¬ (a2 = 0) from b11)) (Eq.trans (if_neg (show ¬ (a2 = 1) from b16)) (Eq.trans (if_neg (show ¬ (a2 = 7) from b22)) (Eq.trans (if_pos (show a2 < 3 from b30)) (Eq.trans (if_neg (show ¬ (a2 < 1) from b43)) (Eq.trans (if_pos (show 3 < a2 from b48)) (if_neg (show ¬ (a2 < 5) from b56)))))))))) rfl
            · refine k_iinc (i := 3) dX12_next_51 (rfl : 51 + 3 = 54) rfl (Nat.le_of_ble_eq_true rfl) rfl ?_
              refine k_ls (ls2 := [.int a1, .int a2, .int (a1 - a1 / 8 * 8), .int ((a1 / 8) + Int32.ofInt 1)]) rfl ?_
              refine k_iload_n (i := 1) dX12_next_54 (rfl : 54 + 1 = 55) rfl rfl ?_
              refine k_iconst (v := 5) dX12_next_55 (rfl : 55 + 1 = 56) (by decide) ?_
              refine k_icmp_lt (tgt := 62) dX12_next_56 (rfl : 56 + 3 = 59) (by decide) (fun b56 => ?_) (fun b56 => ?_)
              · refine k_bipush (v := 8) dX12_next_62 (rfl : 62 + 2 = 64) (by decide) ?_
                refine k_iload_n (i := 3) dX12_next_64 (rfl : 64 + 1 = 65) rfl rfl ?_
                refine k_bipush (v := 8) dX12_next_65 (rfl : 65 + 2 = 67) (by decide) ?_
                refine k_irem dX12_next_67 (rfl : 67 + 1 = 68) (by decide) ?_
                refine k_imul dX12_next_68 (rfl : 68 + 1 = 69) ?_
                refine k_iload_n (i := 2) dX12_next_69 (rfl : 69 + 1 = 70) rfl rfl ?_
                refine k_bipush (v := 8) dX12_next_70 (rfl : 70 + 2 = 72) (by decide) ?_
                refine k_irem dX12_next_72 (rfl : 72 + 1 = 73) (by decide) ?_
                refine k_iadd dX12_next_73 (rfl : 73 + 1 = 74) ?_
                refine k_iret rfl rfl dX12_next_74 (Nat.le_of_ble_eq_true rfl) (Nat.le_of_ble_eq_true rfl) ?_
                exact kRt_of (congrArg (fun z => some (Value.int z)) (Eq.symm (Eq.trans (if_neg (show ¬ (a2 = 0) from b11)) (Eq.trans (if_neg (show ¬ (a2 = 1) from b16)) (Eq.trans (if_neg (show ¬ (a2 = 7) from b22)) (Eq.trans (if_pos (show a2 < 3 from b30)) (Eq.trans (if_neg (show ¬ (a2 < 1) from b43)) (Eq.trans (if_neg (show ¬ (3 < a2) from b48)) (if_pos (show a2 < 5 from b56)))))))))) rfl
              · refine k_iinc (i := 3) dX12_next_59 (rfl : 59 + 3 = 62) rfl (Nat.le_of_ble_eq_true rfl) rfl ?_
                refine k_ls (ls2 := [.int a1, .int a2, .int (a1 - a1 / 8 * 8), .int (((a1 / 8) + Int32.ofInt 1) + Int32.ofInt 7)]) rfl ?_
                refine k_bipush (v := 8) dX12_next_62 (rfl : 62 + 2 = 64) (by decide) ?_
                refine k_iload_n (i := 3) dX12_next_64 (rfl : 64 + 1 = 65) rfl rfl ?_
                refine k_bipush (v := 8) dX12_next_65 (rfl : 65 + 2 = 67) (by decide) ?_
                refine k_irem dX12_next_67 (rfl : 67 + 1 = 68) (by decide) ?_
                refine k_imul dX12_next_68 (rfl : 68 + 1 = 69) ?_
                refine k_iload_n (i := 2) dX12_next_69 (rfl : 69 + 1 = 70) rfl rfl ?_
                refine k_bipush (v := 8) dX12_next_70 (rfl : 70 + 2 = 72) (by decide) ?_
                refine k_irem dX12_next_72 (rfl : 72 + 1 = 73) (by decide) ?_
                refine k_iadd dX12_next_73 (rfl : 73 + 1 = 74) ?_
                refine k_iret rfl rfl dX12_next_74 (Nat.le_of_ble_eq_true rfl) (Nat.le_of_ble_eq_true rfl) ?_
                exact kRt_of (congrArg (fun z => some (Value.int z)) (Eq.symm (Eq.trans (if_neg (show ¬ (a2 = 0) from b11)) (Eq.trans (if_neg (show ¬ (a2 = 1) from b16)) (Eq.trans (if_neg (show ¬ (a2 = 7) from b22)) (Eq.trans (if_pos (show a2 < 3 from b30)) (Eq.trans (if_neg (show ¬ (a2 < 1) from b43)) (Eq.trans (if_neg (show ¬ (3 < a2) from b48)) (if_neg (show ¬ (a2 < 5) from b56)))))))))) rfl
        · refine k_iload_n (i := 1) dX12_next_33 (rfl : 33 + 1 = 34) rfl rfl ?_
          refine k_iconst (v := 5) dX12_next_34 (rfl : 34 + 1 = 35) (by decide) ?_
          refine k_icmp_gt (tgt := 41) dX12_next_35 (rfl : 35 + 3 = 38) (by decide) (fun b35 => ?_) (fun b35 => ?_)
          · refine k_iload_n (i := 1) dX12_next_41 (rfl : 41 + 1 = 42) rfl rfl ?_
            refine k_iconst (v := 1) dX12_next_42 (rfl : 42 + 1 = 43) (by decide) ?_
            refine k_icmp_lt (tgt := 54) dX12_next_43 (rfl : 43 + 3 = 46) (by decide) (fun b43 => ?_) (fun b43 => ?_)
            · refine k_iload_n (i := 1) dX12_next_54 (rfl : 54 + 1 = 55) rfl rfl ?_
              refine k_iconst (v := 5) dX12_next_55 (rfl : 55 + 1 = 56) (by decide) ?_
              refine k_icmp_lt (tgt := 62) dX12_next_56 (rfl : 56 + 3 = 59) (by decide) (fun b56 => ?_) (fun b56 => ?_)
              · refine k_bipush (v := 8) dX12_next_62 (rfl : 62 + 2 = 64) (by decide) ?_
                refine k_iload_n (i := 3) dX12_next_64 (rfl : 64 + 1 = 65) rfl rfl ?_
                refine k_bipush (v := 8) dX12_next_65 (rfl : 65 + 2 = 67) (by decide) ?_
                refine k_irem dX12_next_67 (rfl : 67 + 1 = 68) (by decide) ?_
                refine k_imul dX12_next_68 (rfl : 68 + 1 = 69) ?_
                refine k_iload_n (i := 2) dX12_next_69 (rfl : 69 + 1 = 70) rfl rfl ?_
                refine k_bipush (v := 8) dX12_next_70 (rfl : 70 + 2 = 72) (by decide) ?_
                refine k_irem dX12_next_72 (rfl : 72 + 1 = 73) (by decide) ?_
                refine k_iadd dX12_next_73 (rfl : 73 + 1 = 74) ?_
                refine k_iret rfl rfl dX12_next_74 (Nat.le_of_ble_eq_true rfl) (Nat.le_of_ble_eq_true rfl) ?_
                exact kRt_of (congrArg (fun z => some (Value.int z)) (Eq.symm (Eq.trans (if_neg (show ¬ (a2 = 0) from b11)) (Eq.trans (if_neg (show ¬ (a2 = 1) from b16)) (Eq.trans (if_neg (show ¬ (a2 = 7) from b22)) (Eq.trans (if_neg (show ¬ (a2 < 3) from b30)) (Eq.trans (if_pos (show 5 < a2 from b35)) (Eq.trans (if_pos (show a2 < 1 from b43)) (if_pos (show a2 < 5 from b56)))))))))) rfl
              · refine k_iinc (i := 3) dX12_next_59 (rfl : 59 + 3 = 62) rfl (Nat.le_of_ble_eq_true rfl) rfl ?_
                refine k_ls (ls2 := [.int a1, .int a2, .int (a1 - a1 / 8 * 8), .int ((a1 / 8) + Int32.ofInt 7)]) rfl ?_
                refine k_bipush (v := 8) dX12_next_62 (rfl : 62 + 2 = 64) (by decide) ?_
                refine k_iload_n (i := 3) dX12_next_64 (rfl : 64 + 1 = 65) rfl rfl ?_
                refine k_bipush (v := 8) dX12_next_65 (rfl : 65 + 2 = 67) (by decide) ?_
                refine k_irem dX12_next_67 (rfl : 67 + 1 = 68) (by decide) ?_
                refine k_imul dX12_next_68 (rfl : 68 + 1 = 69) ?_
                refine k_iload_n (i := 2) dX12_next_69 (rfl : 69 + 1 = 70) rfl rfl ?_
                refine k_bipush (v := 8) dX12_next_70 (rfl : 70 + 2 = 72) (by decide) ?_
                refine k_irem dX12_next_72 (rfl : 72 + 1 = 73) (by decide) ?_
                refine k_iadd dX12_next_73 (rfl : 73 + 1 = 74) ?_
                refine k_iret rfl rfl dX12_next_74 (Nat.le_of_ble_eq_true rfl) (Nat.le_of_ble_eq_true rfl) ?_
                exact kRt_of (congrArg (fun z => some (Value.int z)) (Eq.symm (Eq.trans (if_neg (show ¬ (a2 = 0) from b11)) (Eq.trans (if_neg (show ¬ (a2 = 1) from b16)) (Eq.trans (if_neg (show ¬ (a2 = 7) from b22)) (Eq.trans (if_neg (show ¬ (a2 < 3) from b30)) (Eq.trans (if_pos (show 5 < a2 from b35)) (Eq.trans (if_pos (show a2 < 1 from b43)) (if_neg (show ¬ (a2 < 5) from b56)))))))))) rfl
            · refine k_iload_n (i := 1) dX12_next_46 (rfl : 46 + 1 = 47) rfl rfl ?_
              refine k_iconst (v := 3) dX12_next_47 (rfl : 47 + 1 = 48) (by decide) ?_
              refine k_icmp_gt (tgt := 54) dX12_next_48 (rfl : 48 + 3 = 51) (by decide) (fun b48 => ?_) (fun b48 => ?_)
              · refine k_iload_n (i := 1) dX12_next_54 (rfl : 54 + 1 = 55) rfl rfl ?_
                refine k_iconst (v := 5) dX12_next_55 (rfl : 55 + 1 = 56) (by decide) ?_
                refine k_icmp_lt (tgt := 62) dX12_next_56 (rfl : 56 + 3 = 59) (by decide) (fun b56 => ?_) (fun b56 => ?_)
                · refine k_bipush (v := 8) dX12_next_62 (rfl : 62 + 2 = 64) (by decide) ?_
                  refine k_iload_n (i := 3) dX12_next_64 (rfl : 64 + 1 = 65) rfl rfl ?_
                  refine k_bipush (v := 8) dX12_next_65 (rfl : 65 + 2 = 67) (by decide) ?_
                  refine k_irem dX12_next_67 (rfl : 67 + 1 = 68) (by decide) ?_
                  refine k_imul dX12_next_68 (rfl : 68 + 1 = 69) ?_
                  refine k_iload_n (i := 2) dX12_next_69 (rfl : 69 + 1 = 70) rfl rfl ?_
                  refine k_bipush (v := 8) dX12_next_70 (rfl : 70 + 2 = 72) (by decide) ?_
                  refine k_irem dX12_next_72 (rfl : 72 + 1 = 73) (by decide) ?_
                  refine k_iadd dX12_next_73 (rfl : 73 + 1 = 74) ?_
                  refine k_iret rfl rfl dX12_next_74 (Nat.le_of_ble_eq_true rfl) (Nat.le_of_ble_eq_true rfl) ?_
                  exact kRt_of (congrArg (fun z => some (Value.int z)) (Eq.symm (Eq.trans (if_neg (show ¬ (a2 = 0) from b11)) (Eq.trans (if_neg (show ¬ (a2 = 1) from b16)) (Eq.trans (if_neg (show ¬ (a2 = 7) from b22)) (Eq.trans (if_neg (show ¬ (a2 < 3) from b30)) (Eq.trans (if_pos (show 5 < a2 from b35)) (Eq.trans (if_neg (show ¬ (a2 < 1) from b43)) (Eq.trans (if_pos (show 3 < a2 from b48)) (if_pos (show a2 < 5 from b56))))))))))) rfl
                · refine k_iinc (i := 3) dX12_next_59 (rfl : 59 + 3 = 62) rfl (Nat.le_of_ble_eq_true rfl) rfl ?_
                  refine k_ls (ls2 := [.int a1, .int a2, .int (a1 - a1 / 8 * 8), .int ((a1 / 8) + Int32.ofInt 7)]) rfl ?_
                  refine k_bipush (v := 8) dX12_next_62 (rfl : 62 + 2 = 64) (by decide) ?_
                  refine k_iload_n (i := 3) dX12_next_64 (rfl : 64 + 1 = 65) rfl rfl ?_
                  refine k_bipush (v := 8) dX12_next_65 (rfl : 65 + 2 = 67) (by decide) ?_
                  refine k_irem dX12_next_67 (rfl : 67 + 1 = 68) (by decide) ?_
                  refine k_imul dX12_next_68 (rfl : 68 + 1 = 69) ?_
                  refine k_iload_n (i := 2) dX12_next_69 (rfl : 69 + 1 = 70) rfl rfl ?_
                  refine k_bipush (v := 8) dX12_next_70 (rfl : 70 + 2 = 72) (by decide) ?_
                  refine k_irem dX12_next_72 (rfl : 72 + 1 = 73) (by decide) ?_
                  refine k_iadd dX12_next_73 (rfl : 73 + 1 = 74) ?_
                  refine k_iret rfl rfl dX12_next_74 (Nat.le_of_ble_eq_true rfl) (Nat.le_of_ble_eq_true rfl) ?_
                  exact kRt_of (congrArg (fun z => some (Value.int z)) (Eq.symm (Eq.trans (if_neg (show ¬ (a2 = 0) from b11)) (Eq.trans (if_neg (show ¬ (a2 = 1) from b16)) (Eq.trans (if_neg (show ¬ (a2 = 7) from b22)) (Eq.trans (if_neg (show ¬ (a2 < 3) from b30)) (Eq.trans (if_pos (show 5 < a2 from b35)) (Eq.trans (if_neg (show ¬ (a2 < 1) from b43)) (Eq.trans (if_pos (show 3 < a2 from b48)) (if_neg (show ¬ (a2 < 5) from b56))))))))))) rfl
              · refine k_iinc (i := 3) dX12_next_51 (rfl : 51 + 3 = 54) rfl (Nat.le_of_ble_eq_true rfl) rfl ?_
                refine k_ls (ls2 := [.int a1, .int a2, .int (a1 - a1 / 8 * 8), .int ((a1 / 8) + Int32.ofInt 1)]) rfl ?_
                refine k_iload_n (i := 1) dX12_next_54 (rfl : 54 + 1 = 55) rfl rfl ?_
                refine k_iconst (v := 5) dX12_next_55 (rfl : 55 + 1 = 56) (by decide) ?_
                refine k_icmp_lt (tgt := 62) dX12_next_56 (rfl : 56 + 3 = 59) (by decide) (fun b56 => ?_) (fun b56 => ?_)
                · refine k_bipush (v := 8) dX12_next_62 (rfl : 62 + 2 = 64) (by decide) ?_
                  refine k_iload_n (i := 3) dX12_next_64 (rfl : 64 + 1 = 65) rfl rfl ?_
                  refine k_bipush (v := 8) dX12_next_65 (rfl : 65 + 2 = 67) (by decide) ?_
                  refine k_irem dX12_next_67 (rfl : 67 + 1 = 68) (by decide) ?_
                  refine k_imul dX12_next_68 (rfl : 68 + 1 = 69) ?_
                  refine k_iload_n (i := 2) dX12_next_69 (rfl : 69 + 1 = 70) rfl rfl ?_
                  refine k_bipush (v := 8) dX12_next_70 (rfl : 70 + 2 = 72) (by decide) ?_
                  refine k_irem dX12_next_72 (rfl : 72 + 1 = 73) (by decide) ?_
                  refine k_iadd dX12_next_73 (rfl : 73 + 1 = 74) ?_
                  refine k_iret rfl rfl dX12_next_74 (Nat.le_of_ble_eq_true rfl) (Nat.le_of_ble_eq_true rfl) ?_
                  exact kRt_of (congrArg (fun z => some (Value.int z)) (Eq.symm (Eq.trans (if_neg (show ¬ (a2 = 0) from b11)) (Eq.trans (if_neg (show ¬ (a2 = 1) from b16)) (Eq.trans (if_neg (show ¬ (a2 = 7) from b22)) (Eq.trans (if_neg (show ¬ (a2 < 3) from b30)) (Eq.trans (if_pos (show 5 < a2 from b35)) (Eq.trans (if_neg (show ¬ (a2 < 1) from b43)) (Eq.trans (if_neg (show ¬ (3 < a2) from b48)) (if_pos (show a2 < 5 from b56))))))))))) rfl
                · refine k_iinc (i := 3) dX12_next_59 (rfl : 59 + 3 = 62) rfl (Nat.le_of_ble_eq_true rfl) rfl ?_
                  refine k_ls (ls2 := [.int a1, .int a2, .int (a1 - a1 / 8 * 8), .int (((a1 / 8) + Int32.ofInt 1) + Int32.ofInt 7)]) rfl ?_
                  refine k_bipush (v := 8) dX12_next_62 (rfl : 62 + 2 = 64) (by decide) ?_
                  refine k_iload_n (i := 3) dX12_next_64 (rfl : 64 + 1 = 65) rfl rfl ?_
                  refine k_bipush (v := 8) dX12_next_65 (rfl : 65 + 2 = 67) (by decide) ?_
                  refine k_irem dX12_next_67 (rfl : 67 + 1 = 68) (by decide) ?_
                  refine k_imul dX12_next_68 (rfl : 68 + 1 = 69) ?_
                  refine k_iload_n (i := 2) dX12_next_69 (rfl : 69 + 1 = 70) rfl rfl ?_
                  refine k_bipush (v := 8) dX12_next_70 (rfl : 70 + 2 = 72) (by decide) ?_
                  refine k_irem dX12_next_72 (rfl : 72 + 1 = 73) (by decide) ?_
                  refine k_iadd dX12_next_73 (rfl : 73 + 1 = 74) ?_
                  refine k_iret rfl rfl dX12_next_74 (Nat.le_of_ble_eq_true rfl) (Nat.le_of_ble_eq_true rfl) ?_
                  exact kRt_of (congrArg (fun z => some (Value.int z)) (Eq.symm (Eq.trans (if_neg (show ¬ (a2 = 0) from b11)) (Eq.trans (if_neg (show ¬ (a2 = 1) from b16)) (Eq.trans (if_neg (show ¬ (a2 = 7) from b22)) (Eq.trans (if_neg (show ¬ (a2 < 3) from b30)) (Eq.trans (if_pos (show 5 < a2 from b35)) (Eq.trans (if_neg (show ¬ (a2 < 1) from b43)) (Eq.trans (if_neg (show ¬ (3 < a2) from b48)) (if_neg (show ¬ (a2 < 5) from b56))))))))))) rfl
          · refine k_iinc (i := 2) dX12_next_38 (rfl : 38 + 3 = 41) rfl (Nat.le_of_ble_eq_true rfl) rfl ?_
            refine k_ls (ls2 := [.int a1, .int a2, .int ((a1 - a1 / 8 * 8) + Int32.ofInt 7), .int (a1 / 8)]) rfl ?_
            refine k_iload_n (i := 1) dX12_next_41 (rfl : 41 + 1 = 42) rfl rfl ?_
            refine k_iconst (v := 1) dX12_next_42 (rfl : 42 + 1 = 43) (by decide) ?_
            refine k_icmp_lt (tgt := 54) dX12_next_43 (rfl : 43 + 3 = 46) (by decide) (fun b43 => ?_) (fun b43 => ?_)
            · refine k_iload_n (i := 1) dX12_next_54 (rfl : 54 + 1 = 55) rfl rfl ?_
              refine k_iconst (v := 5) dX12_next_55 (rfl : 55 + 1 = 56) (by decide) ?_
              refine k_icmp_lt (tgt := 62) dX12_next_56 (rfl : 56 + 3 = 59) (by decide) (fun b56 => ?_) (fun b56 => ?_)
              · refine k_bipush (v := 8) dX12_next_62 (rfl : 62 + 2 = 64) (by decide) ?_
                refine k_iload_n (i := 3) dX12_next_64 (rfl : 64 + 1 = 65) rfl rfl ?_
                refine k_bipush (v := 8) dX12_next_65 (rfl : 65 + 2 = 67) (by decide) ?_
                refine k_irem dX12_next_67 (rfl : 67 + 1 = 68) (by decide) ?_
                refine k_imul dX12_next_68 (rfl : 68 + 1 = 69) ?_
                refine k_iload_n (i := 2) dX12_next_69 (rfl : 69 + 1 = 70) rfl rfl ?_
                refine k_bipush (v := 8) dX12_next_70 (rfl : 70 + 2 = 72) (by decide) ?_
                refine k_irem dX12_next_72 (rfl : 72 + 1 = 73) (by decide) ?_
                refine k_iadd dX12_next_73 (rfl : 73 + 1 = 74) ?_
                refine k_iret rfl rfl dX12_next_74 (Nat.le_of_ble_eq_true rfl) (Nat.le_of_ble_eq_true rfl) ?_
                exact kRt_of (congrArg (fun z => some (Value.int z)) (Eq.symm (Eq.trans (if_neg (show ¬ (a2 = 0) from b11)) (Eq.trans (if_neg (show ¬ (a2 = 1) from b16)) (Eq.trans (if_neg (show ¬ (a2 = 7) from b22)) (Eq.trans (if_neg (show ¬ (a2 < 3) from b30)) (Eq.trans (if_neg (show ¬ (5 < a2) from b35)) (Eq.trans (if_pos (show a2 < 1 from b43)) (if_pos (show a2 < 5 from b56)))))))))) rfl
              · refine k_iinc (i := 3) dX12_next_59 (rfl : 59 + 3 = 62) rfl (Nat.le_of_ble_eq_true rfl) rfl ?_
                refine k_ls (ls2 := [.int a1, .int a2, .int ((a1 - a1 / 8 * 8) + Int32.ofInt 7), .int ((a1 / 8) + Int32.ofInt 7)]) rfl ?_
                refine k_bipush (v := 8) dX12_next_62 (rfl : 62 + 2 = 64) (by decide) ?_
                refine k_iload_n (i := 3) dX12_next_64 (rfl : 64 + 1 = 65) rfl rfl ?_
                refine k_bipush (v := 8) dX12_next_65 (rfl : 65 + 2 = 67) (by decide) ?_
                refine k_irem dX12_next_67 (rfl : 67 + 1 = 68) (by decide) ?_
                refine k_imul dX12_next_68 (rfl : 68 + 1 = 69) ?_
                refine k_iload_n (i := 2) dX12_next_69 (rfl : 69 + 1 = 70) rfl rfl ?_
                refine k_bipush (v := 8) dX12_next_70 (rfl : 70 + 2 = 72) (by decide) ?_
                refine k_irem dX12_next_72 (rfl : 72 + 1 = 73) (by decide) ?_
                refine k_iadd dX12_next_73 (rfl : 73 + 1 = 74) ?_
                refine k_iret rfl rfl dX12_next_74 (Nat.le_of_ble_eq_true rfl) (Nat.le_of_ble_eq_true rfl) ?_
                exact kRt_of (congrArg (fun z => some (Value.int z)) (Eq.symm (Eq.trans (if_neg (show ¬ (a2 = 0) from b11)) (Eq.trans (if_neg (show ¬ (a2 = 1) from b16)) (Eq.trans (if_neg (show ¬ (a2 = 7) from b22)) (Eq.trans (if_neg (show ¬ (a2 < 3) from b30)) (Eq.trans (if_neg (show ¬ (5 < a2) from b35)) (Eq.trans (if_pos (show a2 < 1 from b43)) (if_neg (show ¬ (a2 < 5) from b56)))))))))) rfl
            · refine k_iload_n (i := 1) dX12_next_46 (rfl : 46 + 1 = 47) rfl rfl ?_
              refine k_iconst (v := 3) dX12_next_47 (rfl : 47 + 1 = 48) (by decide) ?_
              refine k_icmp_gt (tgt := 54) dX12_next_48 (rfl : 48 + 3 = 51) (by decide) (fun b48 => ?_) (fun b48 => ?_)
              · refine k_iload_n (i := 1) dX12_next_54 (rfl : 54 + 1 = 55) rfl rfl ?_
                refine k_iconst (v := 5) dX12_next_55 (rfl : 55 + 1 = 56) (by decide) ?_
                refine k_icmp_lt (tgt := 62) dX12_next_56 (rfl : 56 + 3 = 59) (by decide) (fun b56 => ?_) (fun b56 => ?_)
                · refine k_bipush (v := 8) dX12_next_62 (rfl : 62 + 2 = 64) (by decide) ?_
                  refine k_iload_n (i := 3) dX12_next_64 (rfl : 64 + 1 = 65) rfl rfl ?_
                  refine k_bipush (v := 8) dX12_next_65 (rfl : 65 + 2 = 67) (by decide) ?_
                  refine k_irem dX12_next_67 (rfl : 67 + 1 = 68) (by decide) ?_
                  refine k_imul dX12_next_68 (rfl : 68 + 1 = 69) ?_
                  refine k_iload_n (i := 2) dX12_next_69 (rfl : 69 + 1 = 70) rfl rfl ?_
                  refine k_bipush (v := 8) dX12_next_70 (rfl : 70 + 2 = 72) (by decide) ?_
                  refine k_irem dX12_next_72 (rfl : 72 + 1 = 73) (by decide) ?_
                  refine k_iadd dX12_next_73 (rfl : 73 + 1 = 74) ?_
                  refine k_iret rfl rfl dX12_next_74 (Nat.le_of_ble_eq_true rfl) (Nat.le_of_ble_eq_true rfl) ?_
                  exact kRt_of (congrArg (fun z => some (Value.int z)) (Eq.symm (Eq.trans (if_neg (show ¬ (a2 = 0) from b11)) (Eq.trans (if_neg (show ¬ (a2 = 1) from b16)) (Eq.trans (if_neg (show ¬ (a2 = 7) from b22)) (Eq.trans (if_neg (show ¬ (a2 < 3) from b30)) (Eq.trans (if_neg (show ¬ (5 < a2) from b35)) (Eq.trans (if_neg (show ¬ (a2 < 1) from b43)) (Eq.trans (if_pos (show 3 < a2 from b48)) (if_pos (show a2 < 5 from b56))))))))))) rfl
                · refine k_iinc (i := 3) dX12_next_59 (rfl : 59 + 3 = 62) rfl (Nat.le_of_ble_eq_true rfl) rfl ?_
                  refine k_ls (ls2 := [.int a1, .int a2, .int ((a1 - a1 / 8 * 8) + Int32.ofInt 7), .int ((a1 / 8) + Int32.ofInt 7)]) rfl ?_
                  refine k_bipush (v := 8) dX12_next_62 (rfl : 62 + 2 = 64) (by decide) ?_
                  refine k_iload_n (i := 3) dX12_next_64 (rfl : 64 + 1 = 65) rfl rfl ?_
                  refine k_bipush (v := 8) dX12_next_65 (rfl : 65 + 2 = 67) (by decide) ?_
                  refine k_irem dX12_next_67 (rfl : 67 + 1 = 68) (by decide) ?_
                  refine k_imul dX12_next_68 (rfl : 68 + 1 = 69) ?_
                  refine k_iload_n (i := 2) dX12_next_69 (rfl : 69 + 1 = 70) rfl rfl ?_
                  refine k_bipush (v := 8) dX12_next_70 (rfl : 70 + 2 = 72) (by decide) ?_
                  refine k_irem dX12_next_72 (rfl : 72 + 1 = 73) (by decide) ?_
                  refine k_iadd dX12_next_73 (rfl : 73 + 1 = 74) ?_
                  refine k_iret rfl rfl dX12_next_74 (Nat.le_of_ble_eq_true rfl) (Nat.le_of_ble_eq_true rfl) ?_
                  exact kRt_of (congrArg (fun z => some (Value.int z)) (Eq.symm (Eq.trans (if_neg (show ¬ (a2 = 0) from b11)) (Eq.trans (if_neg (show ¬ (a2 = 1) from b16)) (Eq.trans (if_neg (show ¬ (a2 = 7) from b22)) (Eq.trans (if_neg (show ¬ (a2 < 3) from b30)) (Eq.trans (if_neg (show ¬ (5 < a2) from b35)) (Eq.trans (if_neg (show ¬ (a2 < 1) from b43)) (Eq.trans (if_pos (show 3 < a2 from b48)) (if_neg (show ¬ (a2 < 5) from b56))))))))))) rfl
              · refine k_iinc (i := 3) dX12_next_51 (rfl : 51 + 3 = 54) rfl (Nat.le_of_ble_eq_true rfl) rfl ?_
                refine k_ls (ls2 := [.int a1, .int a2, .int ((a1 - a1 / 8 * 8) + Int32.ofInt 7), .int ((a1 / 8) + Int32.ofInt 1)]) rfl ?_
                refine k_iload_n (i := 1) dX12_next_54 (rfl : 54 + 1 = 55) rfl rfl ?_
                refine k_iconst (v := 5) dX12_next_55 (rfl : 55 + 1 = 56) (by decide) ?_
                refine k_icmp_lt (tgt := 62) dX12_next_56 (rfl : 56 + 3 = 59) (by decide) (fun b56 => ?_) (fun b56 => ?_)
                · refine k_bipush (v := 8) dX12_next_62 (rfl : 62 + 2 = 64) (by decide) ?_
                  refine k_iload_n (i := 3) dX12_next_64 (rfl : 64 + 1 = 65) rfl rfl ?_
                  refine k_bipush (v := 8) dX12_next_65 (rfl : 65 + 2 = 67) (by decide) ?_
                  refine k_irem dX12_next_67 (rfl : 67 + 1 = 68) (by decide) ?_
                  refine k_imul dX12_next_68 (rfl : 68 + 1 = 69) ?_
                  refine k_iload_n (i := 2) dX12_next_69 (rfl : 69 + 1 = 70) rfl rfl ?_
                  refine k_bipush (v := 8) dX12_next_70 (rfl : 70 + 2 = 72) (by decide) ?_
                  refine k_irem dX12_next_72 (rfl : 72 + 1 = 73) (by decide) ?_
                  refine k_iadd dX12_next_73 (rfl : 73 + 1 = 74) ?_
                  refine k_iret rfl rfl dX12_next_74 (Nat.le_of_ble_eq_true rfl) (Nat.le_of_ble_eq_true rfl) ?_
                  exact kRt_of (congrArg (fun z => some (Value.int z)) (Eq.symm (Eq.trans (if_neg (show ¬ (a2 = 0) from b11)) (Eq.trans (if_neg (show ¬ (a2 = 1) from b16)) (Eq.trans (if_neg (show ¬ (a2 = 7) from b22)) (Eq.trans (if_neg (show ¬ (a2 < 3) from b30)) (Eq.trans (if_neg (show ¬ (5 < a2) from b35)) (Eq.trans (if_neg (show ¬ (a2 < 1) from b43)) (Eq.trans (if_neg (show ¬ (3 < a2) from b48)) (if_pos (show a2 < 5 from b56))))))))))) rfl
                · refine k_iinc (i := 3) dX12_next_59 (rfl : 59 + 3 = 62) rfl (Nat.le_of_ble_eq_true rfl) rfl ?_
                  refine k_ls (ls2 := [.int a1, .int a2, .int ((a1 - a1 / 8 * 8) + Int32.ofInt 7), .int (((a1 / 8) + Int32.ofInt 1) + Int32.ofInt 7)]) rfl ?_
                  refine k_bipush (v := 8) dX12_next_62 (rfl : 62 + 2 = 64) (by decide) ?_
                  refine k_iload_n (i := 3) dX12_next_64 (rfl : 64 + 1 = 65) rfl rfl ?_
                  refine k_bipush (v := 8) dX12_next_65 (rfl : 65 + 2 = 67) (by decide) ?_
                  refine k_irem dX12_next_67 (rfl : 67 + 1 = 68) (by decide) ?_
                  refine k_imul dX12_next_68 (rfl : 68 + 1 = 69) ?_
                  refine k_iload_n (i := 2) dX12_next_69 (rfl : 69 + 1 = 70) rfl rfl ?_
                  refine k_bipush (v := 8) dX12_next_70 (rfl : 70 + 2 = 72) (by decide) ?_
                  refine k_irem dX12_next_72 (rfl : 72 + 1 = 73) (by decide) ?_
                  refine k_iadd dX12_next_73 (rfl : 73 + 1 = 74) ?_
                  refine k_iret rfl rfl dX12_next_74 (Nat.le_of_ble_eq_true rfl) (Nat.le_of_ble_eq_true rfl) ?_
                  exact kRt_of (congrArg (fun z => some (Value.int z)) (Eq.symm (Eq.trans (if_neg (show ¬ (a2 = 0) from b11)) (Eq.trans (if_neg (show ¬ (a2 = 1) from b16)) (Eq.trans (if_neg (show ¬ (a2 = 7) from b22)) (Eq.trans (if_neg (show ¬ (a2 < 3) from b30)) (Eq.trans (if_neg (show ¬ (5 < a2) from b35)) (Eq.trans (if_neg (show ¬ (a2 < 1) from b43)) (Eq.trans (if_neg (show ¬ (3 < a2) from b48)) (if_neg (show ¬ (a2 < 5) from b56))))))))))) rfl
      · refine k_iinc (i := 2) dX12_next_25 (rfl : 25 + 3 = 28) rfl (Nat.le_of_ble_eq_true rfl) rfl ?_
        refine k_ls (ls2 := [.int a1, .int a2, .int ((a1 - a1 / 8 * 8) + Int32.ofInt 1), .int (a1 / 8)]) rfl ?_
        refine k_iload_n (i := 1) dX12_next_28 (rfl : 28 + 1 = 29) rfl rfl ?_
        refine k_iconst (v := 3) dX12_next_29 (rfl : 29 + 1 = 30) (by decide) ?_
        refine k_icmp_lt (tgt := 41) dX12_next_30 (rfl : 30 + 3 = 33) (by decide) (fun b30 => ?_) (fun b30 => ?_)
        · refine k_iload_n (i := 1) dX12_next_41 (rfl : 41 + 1 = 42) rfl rfl ?_
          refine k_iconst (v := 1) dX12_next_42 (rfl : 42 + 1 = 43) (by decide) ?_
          refine k_icmp_lt (tgt := 54) dX12_next_43 (rfl : 43 + 3 = 46) (by decide) (fun b43 => ?_) (fun b43 => ?_)
          · refine k_iload_n (i := 1) dX12_next_54 (rfl : 54 + 1 = 55) rfl rfl ?_
            refine k_iconst (v := 5) dX12_next_55 (rfl : 55 + 1 = 56) (by decide) ?_
            refine k_icmp_lt (tgt := 62) dX12_next_56 (rfl : 56 + 3 = 59) (by decide) (fun b56 => ?_) (fun b56 => ?_)
            · refine k_bipush (v := 8) dX12_next_62 (rfl : 62 + 2 = 64) (by decide) ?_
              refine k_iload_n (i := 3) dX12_next_64 (rfl : 64 + 1 = 65) rfl rfl ?_
              refine k_bipush (v := 8) dX12_next_65 (rfl : 65 + 2 = 67) (by decide) ?_
              refine k_irem dX12_next_67 (rfl : 67 + 1 = 68) (by decide) ?_
              refine k_imul dX12_next_68 (rfl : 68 + 1 = 69) ?_
              refine k_iload_n (i := 2) dX12_next_69 (rfl : 69 + 1 = 70) rfl rfl ?_
              refine k_bipush (v := 8) dX12_next_70 (rfl : 70 + 2 = 72) (by decide) ?_
              refine k_irem dX12_next_72 (rfl : 72 + 1 = 73) (by decide) ?_
              refine k_iadd dX12_next_73 (rfl : 73 + 1 = 74) ?_
              refine k_iret rfl rfl dX12_next_74 (Nat.le_of_ble_eq_true rfl) (Nat.le_of_ble_eq_true rfl) ?_
              exact kRt_of (congrArg (fun z => some (Value.int z)) (Eq.symm (Eq.trans (if_neg (show ¬ (a2 = 0) from b11)) (Eq.trans (if_neg (show ¬ (a2 = 1) from b16)) (Eq.trans (if_pos (show a2 = 7 from b22)) (Eq.trans (if_pos (show a2 < 3 from b30)) (Eq.trans (if_pos (show a2 < 1 from b43)) (if_pos (show a2 < 5 from b56))))))))) rfl
            · refine k_iinc (i := 3) dX12_next_59 (rfl : 59 + 3 = 62) rfl (Nat.le_of_ble_eq_true rfl) rfl ?_
              refine k_ls (ls2 := [.int a1, .int a2, .int ((a1 - a1 / 8 * 8) + Int32.ofInt 1), .int ((a1 / 8) + Int32.ofInt 7)]) rfl ?_
              refine k_bipush (v := 8) dX12_next_62 (rfl : 62 + 2 = 64) (by decide) ?_
              refine k_iload_n (i := 3) dX12_next_64 (rfl : 64 + 1 = 65) rfl rfl ?_
              refine k_bipush (v := 8) dX12_next_65 (rfl : 65 + 2 = 67) (by decide) ?_
              refine k_irem dX12_next_67 (rfl : 67 + 1 = 68) (by decide) ?_
              refine k_imul dX12_next_68 (rfl : 68 + 1 = 69) ?_
              refine k_iload_n (i := 2) dX12_next_69 (rfl : 69 + 1 = 70) rfl rfl ?_
              refine k_bipush (v := 8) dX12_next_70 (rfl : 70 + 2 = 72) (by decide) ?_
              refine k_irem dX12_next_72 (rfl : 72 + 1 = 73) (by decide) ?_
              refine k_iadd dX12_next_73 (rfl : 73 + 1 = 74) ?_
              refine k_iret rfl rfl dX12_next_74 (Nat.le_of_ble_eq_true rfl) (Nat.le_of_ble_eq_true rfl) ?_
              exact kRt_of (congrArg (fun z => some (Value.int z)) (Eq.symm (Eq.trans (if_neg (show ¬ (a2 = 0) from b11)) (Eq.trans (if_neg (show ¬ (a2 = 1) from b16)) (Eq.trans (if_pos (show a2 = 7 from b22)) (Eq.trans (if_pos (show a2 < 3 from b30)) (Eq.trans (if_pos (show a2 < 1 from b43)) (if_neg (show ¬ (a2 < 5) from b56))))))))) rfl
          · refine k_iload_n (i := 1) dX12_next_46 (rfl : 46 + 1 = 47) rfl rfl ?_
            refine k_iconst (v := 3) dX12_next_47 (rfl : 47 + 1 = 48) (by decide) ?_
            refine k_icmp_gt (tgt := 54) dX12_next_48 (rfl : 48 + 3 = 51) (by decide) (fun b48 => ?_) (fun b48 => ?_)
            · refine k_iload_n (i := 1) dX12_next_54 (rfl : 54 + 1 = 55) rfl rfl ?_
              refine k_iconst (v := 5) dX12_next_55 (rfl : 55 + 1 = 56) (by decide) ?_
              refine k_icmp_lt (tgt := 62) dX12_next_56 (rfl : 56 + 3 = 59) (by decide) (fun b56 => ?_) (fun b56 => ?_)
              · refine k_bipush (v := 8) dX12_next_62 (rfl : 62 + 2 = 64) (by decide) ?_
                refine k_iload_n (i := 3) dX12_next_64 (rfl : 64 + 1 = 65) rfl rfl ?_
                refine k_bipush (v := 8) dX12_next_65 (rfl : 65 + 2 = 67) (by decide) ?_
                refine k_irem dX12_next_67 (rfl : 67 + 1 = 68) (by decide) ?_
                refine k_imul dX12_next_68 (rfl : 68 + 1 = 69) ?_
                refine k_iload_n (i := 2) dX12_next_69 (rfl : 69 + 1 = 70) rfl rfl ?_
                refine k_bipush (v := 8) dX12_next_70 (rfl : 70 + 2 = 72) (by decide) ?_
                refine k_irem dX12_next_72 (rfl : 72 + 1 = 73) (by decide) ?_
                refine k_iadd dX12_next_73 (rfl : 73 + 1 = 74) ?_
                refine k_iret rfl rfl dX12_next_74 (Nat.le_of_ble_eq_true rfl) (Nat.le_of_ble_eq_true rfl) ?_
                exact kRt_of (congrArg (fun z => some (Value.int z)) (Eq.symm (Eq.trans (if_neg (show ¬ (a2 = 0) from b11)) (Eq.trans (if_neg (show ¬ (a2 = 1) from b16)) (Eq.trans (if_pos (show a2 = 7 from b22)) (Eq.trans (if_pos (show a2 < 3 from b30)) (Eq.trans (if_neg (show ¬ (a2 < 1) from b43)) (Eq.trans (if_pos (show 3 < a2 from b48)) (if_pos (show a2 < 5 from b56)))))))))) rfl
              · refine k_iinc (i := 3) dX12_next_59 (rfl : 59 + 3 = 62) rfl (Nat.le_of_ble_eq_true rfl) rfl ?_
                refine k_ls (ls2 := [.int a1, .int a2, .int ((a1 - a1 / 8 * 8) + Int32.ofInt 1), .int ((a1 / 8) + Int32.ofInt 7)]) rfl ?_
                refine k_bipush (v := 8) dX12_next_62 (rfl : 62 + 2 = 64) (by decide) ?_
                refine k_iload_n (i := 3) dX12_next_64 (rfl : 64 + 1 = 65) rfl rfl ?_
                refine k_bipush (v := 8) dX12_next_65 (rfl : 65 + 2 = 67) (by decide) ?_
                refine k_irem dX12_next_67 (rfl : 67 + 1 = 68) (by decide) ?_
                refine k_imul dX12_next_68 (rfl : 68 + 1 = 69) ?_
                refine k_iload_n (i := 2) dX12_next_69 (rfl : 69 + 1 = 70) rfl rfl ?_
                refine k_bipush (v := 8) dX12_next_70 (rfl : 70 + 2 = 72) (by decide) ?_
                refine k_irem dX12_next_72 (rfl : 72 + 1 = 73) (by decide) ?_
                refine k_iadd dX12_next_73 (rfl : 73 + 1 = 74) ?_
                refine k_iret rfl rfl dX12_next_74 (Nat.le_of_ble_eq_true rfl) (Nat.le_of_ble_eq_true rfl) ?_
                exact kRt_of (congrArg (fun z => some (Value.int z)) (Eq.symm (Eq.trans (if_neg (show ¬ (a2 = 0) from b11)) (Eq.trans (if_neg (show ¬ (a2 = 1) from b16)) (Eq.trans (if_pos (show a2 = 7 from b22)) (Eq.trans (if_pos (show a2 < 3 from b30)) (Eq.trans (if_neg (show ¬ (a2 < 1) from b43)) (Eq.trans (if_pos (show 3 < a2 from b48)) (if_neg (show ¬ (a2 < 5) from b56)))))))))) rfl
            · refine k_iinc (i := 3) dX12_next_51 (rfl : 51 + 3 = 54) rfl (Nat.le_of_ble_eq_true rfl) rfl ?_
              refine k_ls (ls2 := [.int a1, .int a2, .int ((a1 - a1 / 8 * 8) + Int32.ofInt 1), .int ((a1 / 8) + Int32.ofInt 1)]) rfl ?_
              refine k_iload_n (i := 1) dX12_next_54 (rfl : 54 + 1 = 55) rfl rfl ?_
              refine k_iconst (v := 5) dX12_next_55 (rfl : 55 + 1 = 56) (by decide) ?_
              refine k_icmp_lt (tgt := 62) dX12_next_56 (rfl : 56 + 3 = 59) (by decide) (fun b56 => ?_) (fun b56 => ?_)
              · refine k_bipush (v := 8) dX12_next_62 (rfl : 62 + 2 = 64) (by decide) ?_
                refine k_iload_n (i := 3) dX12_next_64 (rfl : 64 + 1 = 65) rfl rfl ?_
                refine k_bipush (v := 8) dX12_next_65 (rfl : 65 + 2 = 67) (by decide) ?_
                refine k_irem dX12_next_67 (rfl : 67 + 1 = 68) (by decide) ?_
                refine k_imul dX12_next_68 (rfl : 68 + 1 = 69) ?_
                refine k_iload_n (i := 2) dX12_next_69 (rfl : 69 + 1 = 70) rfl rfl ?_
                refine k_bipush (v := 8) dX12_next_70 (rfl : 70 + 2 = 72) (by decide) ?_
                refine k_irem dX12_next_72 (rfl : 72 + 1 = 73) (by decide) ?_
                refine k_iadd dX12_next_73 (rfl : 73 + 1 = 74) ?_
                refine k_iret rfl rfl dX12_next_74 (Nat.le_of_ble_eq_true rfl) (Nat.le_of_ble_eq_true rfl) ?_
                exact kRt_of (congrArg (fun z => some (Value.int z)) (Eq.symm (Eq.trans (if_neg (show ¬ (a2 = 0) from b11)) (Eq.trans (if_neg (show ¬ (a2 = 1) from b16)) (Eq.trans (if_pos (show a2 = 7 from b22)) (Eq.trans (if_pos (show a2 < 3 from b30)) (Eq.trans (if_neg (show ¬ (a2 < 1) from b43)) (Eq.trans (if_neg (show ¬ (3 < a2) from b48)) (if_pos (show a2 < 5 from b56)))))))))) rfl
              · refine k_iinc (i := 3) dX12_next_59 (rfl : 59 + 3 = 62) rfl (Nat.le_of_ble_eq_true rfl) rfl ?_
                refine k_ls (ls2 := [.int a1, .int a2, .int ((a1 - a1 / 8 * 8) + Int32.ofInt 1), .int (((a1 / 8) + Int32.ofInt 1) + Int32.ofInt 7)]) rfl ?_
                refine k_bipush (v := 8) dX12_next_62 (rfl : 62 + 2 = 64) (by decide) ?_
                refine k_iload_n (i := 3) dX12_next_64 (rfl : 64 + 1 = 65) rfl rfl ?_
                refine k_bipush (v := 8) dX12_next_65 (rfl : 65 + 2 = 67) (by decide) ?_
                refine k_irem dX12_next_67 (rfl : 67 + 1 = 68) (by decide) ?_
                refine k_imul dX12_next_68 (rfl : 68 + 1 = 69) ?_
                refine k_iload_n (i := 2) dX12_next_69 (rfl : 69 + 1 = 70) rfl rfl ?_
                refine k_bipush (v := 8) dX12_next_70 (rfl : 70 + 2 = 72) (by decide) ?_
                refine k_irem dX12_next_72 (rfl : 72 + 1 = 73) (by decide) ?_
                refine k_iadd dX12_next_73 (rfl : 73 + 1 = 74) ?_
                refine k_iret rfl rfl dX12_next_74 (Nat.le_of_ble_eq_true rfl) (Nat.le_of_ble_eq_true rfl) ?_
                exact kRt_of (congrArg (fun z => some (Value.int z)) (Eq.symm (Eq.trans (if_neg (show ¬ (a2 = 0) from b11)) (Eq.trans (if_neg (show ¬ (a2 = 1) from b16)) (Eq.trans (if_pos (show a2 = 7 from b22)) (Eq.trans (if_pos (show a2 < 3 from b30)) (Eq.trans (if_neg (show ¬ (a2 < 1) from b43)) (Eq.trans (if_neg (show ¬ (3 < a2) from b48)) (if_neg (show ¬ (a2 < 5) from b56)))))))))) rfl
        · refine k_iload_n (i := 1) dX12_next_33 (rfl : 33 + 1 = 34) rfl rfl ?_
          refine k_iconst (v := 5) dX12_next_34 (rfl : 34 + 1 = 35) (by decide) ?_
          refine k_icmp_gt (tgt := 41) dX12_next_35 (rfl : 35 + 3 = 38) (by decide) (fun b35 => ?_) (fun b35 => ?_)
          · refine k_iload_n (i := 1) dX12_next_41 (rfl : 41 + 1 = 42) rfl rfl ?_
            refine k_iconst (v := 1) dX12_next_42 (rfl : 42 + 1 = 43) (by decide) ?_
            refine k_icmp_lt (tgt := 54) dX12_next_43 (rfl : 43 + 3 = 46) (by decide) (fun b43 => ?_) (fun b43 => ?_)
            · refine k_iload_n (i := 1) dX12_next_54 (rfl : 54 + 1 = 55) rfl rfl ?_
              refine k_iconst (v := 5) dX12_next_55 (rfl : 55 + 1 = 56) (by decide) ?_
              refine k_icmp_lt (tgt := 62) dX12_next_56 (rfl : 56 + 3 = 59) (by decide) (fun b56 => ?_) (fun b56 => ?_)
              · refine k_bipush (v := 8) dX12_next_62 (rfl : 62 + 2 = 64) (by decide) ?_
                refine k_iload_n (i := 3) dX12_next_64 (rfl : 64 + 1 = 65) rfl rfl ?_
                refine k_bipush (v := 8) dX12_next_65 (rfl : 65 + 2 = 67) (by decide) ?_
                refine k_irem dX12_next_67 (rfl : 67 + 1 = 68) (by decide) ?_
                refine k_imul dX12_next_68 (rfl : 68 + 1 = 69) ?_
                refine k_iload_n (i := 2) dX12_next_69 (rfl : 69 + 1 = 70) rfl rfl ?_
                refine k_bipush (v := 8) dX12_next_70 (rfl : 70 + 2 = 72) (by decide) ?_
                refine k_irem dX12_next_72 (rfl : 72 + 1 = 73) (by decide) ?_
                refine k_iadd dX12_next_73 (rfl : 73 + 1 = 74) ?_
                refine k_iret rfl rfl dX12_next_74 (Nat.le_of_ble_eq_true rfl) (Nat.le_of_ble_eq_true rfl) ?_
                exact kRt_of (congrArg (fun z => some (Value.int z)) (Eq.symm (Eq.trans (if_neg (show ¬ (a2 = 0) from b11)) (Eq.trans (if_neg (show ¬ (a2 = 1) from b16)) (Eq.trans (if_pos (show a2 = 7 from b22)) (Eq.trans (if_neg (show ¬ (a2 < 3) from b30)) (Eq.trans (if_pos (show 5 < a2 from b35)) (Eq.trans (if_pos (show a2 < 1 from b43)) (if_pos (show a2 < 5 from b56)))))))))) rfl
              · refine k_iinc (i := 3) dX12_next_59 (rfl : 59 + 3 = 62) rfl (Nat.le_of_ble_eq_true rfl) rfl ?_
                refine k_ls (ls2 := [.int a1, .int a2, .int ((a1 - a1 / 8 * 8) + Int32.ofInt 1), .int ((a1 / 8) + Int32.ofInt 7)]) rfl ?_
                refine k_bipush (v := 8) dX12_next_62 (rfl : 62 + 2 = 64) (by decide) ?_
                refine k_iload_n (i := 3) dX12_next_64 (rfl : 64 + 1 = 65) rfl rfl ?_
                refine k_bipush (v := 8) dX12_next_65 (rfl : 65 + 2 = 67) (by decide) ?_
                refine k_irem dX12_next_67 (rfl : 67 + 1 = 68) (by decide) ?_
                refine k_imul dX12_next_68 (rfl : 68 + 1 = 69) ?_
                refine k_iload_n (i := 2) dX12_next_69 (rfl : 69 + 1 = 70) rfl rfl ?_
                refine k_bipush (v := 8) dX12_next_70 (rfl : 70 + 2 = 72) (by decide) ?_
                refine k_irem dX12_next_72 (rfl : 72 + 1 = 73) (by decide) ?_
                refine k_iadd dX12_next_73 (rfl : 73 + 1 = 74) ?_
                refine k_iret rfl rfl dX12_next_74 (Nat.le_of_ble_eq_true rfl) (Nat.le_of_ble_eq_true rfl) ?_
                exact kRt_of (congrArg (fun z => some (Value.int z)) (Eq.symm (Eq.trans (if_neg (show ¬ (a2 = 0) from b11)) (Eq.trans (if_neg (show ¬ (a2 = 1) from b16)) (Eq.trans (if_pos (show a2 = 7 from b22)) (Eq.trans (if_neg (show ¬ (a2 < 3) from b30)) (Eq.trans (if_pos (show 5 < a2 from b35)) (Eq.trans (if_pos (show a2 < 1 from b43)) (if_neg (show ¬ (a2 < 5) from b56)))))))))) rfl
            · refine k_iload_n (i := 1) dX12_next_46 (rfl : 46 + 1 = 47) rfl rfl ?_
              refine k_iconst (v := 3) dX12_next_47 (rfl : 47 + 1 = 48) (by decide) ?_
              refine k_icmp_gt (tgt := 54) dX12_next_48 (rfl : 48 + 3 = 51) (by decide) (fun b48 => ?_) (fun b48 => ?_)
              · refine k_iload_n (i := 1) dX12_next_54 (rfl : 54 + 1 = 55) rfl rfl ?_
                refine k_iconst (v := 5) dX12_next_55 (rfl : 55 + 1 = 56) (by decide) ?_
                refine k_icmp_lt (tgt := 62) dX12_next_56 (rfl : 56 + 3 = 59) (by decide) (fun b56 => ?_) (fun b56 => ?_)
                · refine k_bipush (v := 8) dX12_next_62 (rfl : 62 + 2 = 64) (by decide) ?_
                  refine k_iload_n (i := 3) dX12_next_64 (rfl : 64 + 1 = 65) rfl rfl ?_
                  refine k_bipush (v := 8) dX12_next_65 (rfl : 65 + 2 = 67) (by decide) ?_
                  refine k_irem dX12_next_67 (rfl : 67 + 1 = 68) (by decide) ?_
                  refine k_imul dX12_next_68 (rfl : 68 + 1 = 69) ?_
                  refine k_iload_n (i := 2) dX12_next_69 (rfl : 69 + 1 = 70) rfl rfl ?_
                  refine k_bipush (v := 8) dX12_next_70 (rfl : 70 + 2 = 72) (by decide) ?_
                  refine k_irem dX12_next_72 (rfl : 72 + 1 = 73) (by decide) ?_
                  refine k_iadd dX12_next_73 (rfl : 73 + 1 = 74) ?_
                  refine k_iret rfl rfl dX12_next_74 (Nat.le_of_ble_eq_true rfl) (Nat.le_of_ble_eq_true rfl) ?_
                  exact kRt_of (congrArg (fun z => some (Value.int z)) (Eq.symm (Eq.trans (if_neg (show ¬ (a2 = 0) from b11)) (Eq.trans (if_neg (show ¬ (a2 = 1) from b16)) (Eq.trans (if_pos (show a2 = 7 from b22)) (Eq.trans (if_neg (show ¬ (a2 < 3) from b30)) (Eq.trans (if_pos (show 5 < a2 from b35)) (Eq.trans (if_neg (show ¬ (a2 < 1) from b43)) (Eq.trans (if_pos (show 3 < a2 from b48)) (if_pos (show a2 < 5 from b56))))))))))) rfl
                · refine k_iinc (i := 3) dX12_next_59 (rfl : 59 + 3 = 62) rfl (Nat.le_of_ble_eq_true rfl) rfl ?_
                  refine k_ls (ls2 := [.int a1, .int a2, .int ((a1 - a1 / 8 * 8) + Int32.ofInt 1), .int ((a1 / 8) + Int32.ofInt 7)]) rfl ?_
                  refine k_bipush (v := 8) dX12_next_62 (rfl : 62 + 2 = 64) (by decide) ?_
                  refine k_iload_n (i := 3) dX12_next_64 (rfl : 64 + 1 = 65) rfl rfl ?_
                  refine k_bipush (v := 8) dX12_next_65 (rfl : 65 + 2 = 67) (by decide) ?_
                  refine k_irem dX12_next_67 (rfl : 67 + 1 = 68) (by decide) ?_
                  refine k_imul dX12_next_68 (rfl : 68 + 1 = 69) ?_
                  refine k_iload_n (i := 2) dX12_next_69 (rfl : 69 + 1 = 70) rfl rfl ?_
                  refine k_bipush (v := 8) dX12_next_70 (rfl : 70 + 2 = 72) (by decide) ?_
                  refine k_irem dX12_next_72 (rfl : 72 + 1 = 73) (by decide) ?_
                  refine k_iadd dX12_next_73 (rfl : 73 + 1 = 74) ?_
                  refine k_iret rfl rfl dX12_next_74 (Nat.le_of_ble_eq_true rfl) (Nat.le_of_ble_eq_true rfl) ?_
                  exact kRt_of (congrArg (fun z => some (Value.int z)) (Eq.symm (Eq.trans (if_neg (show ¬ (a2 = 0) from b11)) (Eq.trans (if_neg (show ¬ (a2 = 1) from b16)) (Eq.trans (if_pos (show a2 = 7 from b22)) (Eq.trans (if_neg (show ¬ (a2 < 3) from b30)) (Eq.trans (if_pos (show 5 < a2 from b35)) (Eq.trans (if_neg (show ¬ (a2 < 1) from b43)) (Eq.trans (if_pos (show 3 < a2 from b48)) (if_neg (show ¬ (a2 < 5) from b56))))))))))) rfl
              · refine k_iinc (i := 3) dX12_next_51 (rfl : 51 + 3 = 54) rfl (Nat.le_of_ble_eq_true rfl) rfl ?_
                refine k_ls (ls2 := [.int a1, .int a2, .int ((a1 - a1 / 8 * 8) + Int32.ofInt 1), .int ((a1 / 8) + Int32.ofInt 1)]) rfl ?_
                refine k_iload_n (i := 1) dX12_next_54 (rfl : 54 + 1 = 55) rfl rfl ?_
                refine k_iconst (v := 5) dX12_next_55 (rfl : 55 + 1 = 56) (by decide) ?_
                refine k_icmp_lt (tgt := 62) dX12_next_56 (rfl : 56 + 3 = 59) (by decide) (fun b56 => ?_) (fun b56 => ?_)
                · refine k_bipush (v := 8) dX12_next_62 (rfl : 62 + 2 = 64) (by decide) ?_
                  refine k_iload_n (i := 3) dX12_next_64 (rfl : 64 + 1 = 65) rfl rfl ?_
                  refine k_bipush (v := 8) dX12_next_65 (rfl : 65 + 2 = 67) (by decide) ?_
                  refine k_irem dX12_next_67 (rfl : 67 + 1 = 68) (by decide) ?_
                  refine k_imul dX12_next_68 (rfl : 68 + 1 = 69) ?_
                  refine k_iload_n (i := 2) dX12_next_69 (rfl : 69 + 1 = 70) rfl rfl ?_
                  refine k_bipush (v := 8) dX12_next_70 (rfl : 70 + 2 = 72) (by decide) ?_
                  refine k_irem dX12_next_72 (rfl : 72 + 1 = 73) (by decide) ?_
                  refine k_iadd dX12_next_73 (rfl : 73 + 1 = 74) ?_
                  refine k_iret rfl rfl dX12_next_74 (Nat.le_of_ble_eq_true rfl) (Nat.le_of_ble_eq_true rfl) ?_
                  exact kRt_of (congrArg (fun z => some (Value.int z)) (Eq.symm (Eq.trans (if_neg (show ¬ (a2 = 0) from b11)) (Eq.trans (if_neg (show ¬ (a2 = 1) from b16)) (Eq.trans (if_pos (show a2 = 7 from b22)) (Eq.trans (if_neg (show ¬ (a2 < 3) from b30)) (Eq.trans (if_pos (show 5 < a2 from b35)) (Eq.trans (if_neg (show ¬ (a2 < 1) from b43)) (Eq.trans (if_neg (show ¬ (3 < a2) from b48)) (if_pos (show a2 < 5 from b56))))))))))) rfl
                · refine k_iinc (i := 3) dX12_next_59 (rfl : 59 + 3 = 62) rfl (Nat.le_of_ble_eq_true rfl) rfl ?_
                  refine k_ls (ls2 := [.int a1, .int a2, .int ((a1 - a1 / 8 * 8) + Int32.ofInt 1), .int (((a1 / 8) + Int32.ofInt 1) + Int32.ofInt 7)]) rfl ?_
                  refine k_bipush (v := 8) dX12_next_62 (rfl : 62 + 2 = 64) (by decide) ?_
                  refine k_iload_n (i := 3) dX12_next_64 (rfl : 64 + 1 = 65) rfl rfl ?_
                  refine k_bipush (v := 8) dX12_next_65 (rfl : 65 + 2 = 67) (by decide) ?_
                  refine k_irem dX12_next_67 (rfl : 67 + 1 = 68) (by decide) ?_
                  refine k_imul dX12_next_68 (rfl : 68 + 1 = 69) ?_
                  refine k_iload_n (i := 2) dX12_next_69 (rfl : 69 + 1 = 70) rfl rfl ?_
                  refine k_bipush (v := 8) dX12_next_70 (rfl : 70 + 2 = 72) (by decide) ?_
                  refine k_irem dX12_next_72 (rfl : 72 + 1 = 73) (by decide) ?_
                  refine k_iadd dX12_next_73 (rfl : 73 + 1 = 74) ?_
                  refine k_iret rfl rfl dX12_next_74 (Nat.le_of_ble_eq_true rfl) (Nat.le_of_ble_eq_true rfl) ?_
                  exact kRt_of (congrArg (fun z => some (Value.int z)) (Eq.symm (Eq.trans (if_neg (show ¬ (a2 = 0) from b11)) (Eq.trans (if_neg (show ¬ (a2 = 1) from b16)) (Eq.trans (if_pos (show a2 = 7 from b22)) (Eq.trans (if_neg (show ¬ (a2 < 3) from b30)) (Eq.trans (if_pos (show 5 < a2 from b35)) (Eq.trans (if_neg (show ¬ (a2 < 1) from b43)) (Eq.trans (if_neg (show ¬ (3 < a2) from b48)) (if_neg (show ¬ (a2 < 5) from b56))))))))))) rfl
          · refine k_iinc (i := 2) dX12_next_38 (rfl : 38 + 3 = 41) rfl (Nat.le_of_ble_eq_true rfl) rfl ?_
            refine k_ls (ls2 := [.int a1, .int a2, .int (((a1 - a1 / 8 * 8) + Int32.ofInt 1) + Int32.ofInt 7), .int (a1 / 8)]) rfl ?_
            refine k_iload_n (i := 1) dX12_next_41 (rfl : 41 + 1 = 42) rfl rfl ?_
            refine k_iconst (v := 1) dX12_next_42 (rfl : 42 + 1 = 43) (by decide) ?_
            refine k_icmp_lt (tgt := 54) dX12_next_43 (rfl : 43 + 3 = 46) (by decide) (fun b43 => ?_) (fun b43 => ?_)
            · refine k_iload_n (i := 1) dX12_next_54 (rfl : 54 + 1 = 55) rfl rfl ?_
              refine k_iconst (v := 5) dX12_next_55 (rfl : 55 + 1 = 56) (by decide) ?_
              refine k_icmp_lt (tgt := 62) dX12_next_56 (rfl : 56 + 3 = 59) (by decide) (fun b56 => ?_) (fun b56 => ?_)
              · refine k_bipush (v := 8) dX12_next_62 (rfl : 62 + 2 = 64) (by decide) ?_
                refine k_iload_n (i := 3) dX12_next_64 (rfl : 64 + 1 = 65) rfl rfl ?_
                refine k_bipush (v := 8) dX12_next_65 (rfl : 65 + 2 = 67) (by decide) ?_
                refine k_irem dX12_next_67 (rfl : 67 + 1 = 68) (by decide) ?_
                refine k_imul dX12_next_68 (rfl : 68 + 1 = 69) ?_
                refine k_iload_n (i := 2) dX12_next_69 (rfl : 69 + 1 = 70) rfl rfl ?_
                refine k_bipush (v := 8) dX12_next_70 (rfl : 70 + 2 = 72) (by decide) ?_
                refine k_irem dX12_next_72 (rfl : 72 + 1 = 73) (by decide) ?_
                refine k_iadd dX12_next_73 (rfl : 73 + 1 = 74) ?_
                refine k_iret rfl rfl dX12_next_74 (Nat.le_of_ble_eq_true rfl) (Nat.le_of_ble_eq_true rfl) ?_
                exact kRt_of (congrArg (fun z => some (Value.int z)) (Eq.symm (Eq.trans (if_neg (show ¬ (a2 = 0) from b11)) (Eq.trans (if_neg (show ¬ (a2 = 1) from b16)) (Eq.trans (if_pos (show a2 = 7 from b22)) (Eq.trans (if_neg (show ¬ (a2 < 3) from b30)) (Eq.trans (if_neg (show ¬ (5 < a2) from b35)) (Eq.trans (if_pos (show a2 < 1 from b43)) (if_pos (show a2 < 5 from b56)))))))))) rfl
              · refine k_iinc (i := 3) dX12_next_59 (rfl : 59 + 3 = 62) rfl (Nat.le_of_ble_eq_true rfl) rfl ?_
                refine k_ls (ls2 := [.int a1, .int a2, .int (((a1 - a1 / 8 * 8) + Int32.ofInt 1) + Int32.ofInt 7), .int ((a1 / 8) + Int32.ofInt 7)]) rfl ?_
                refine k_bipush (v := 8) dX12_next_62 (rfl : 62 + 2 = 64) (by decide) ?_
                refine k_iload_n (i := 3) dX12_next_64 (rfl : 64 + 1 = 65) rfl rfl ?_
                refine k_bipush (v := 8) dX12_next_65 (rfl : 65 + 2 = 67) (by decide) ?_
                refine k_irem dX12_next_67 (rfl : 67 + 1 = 68) (by decide) ?_
                refine k_imul dX12_next_68 (rfl : 68 + 1 = 69) ?_
                refine k_iload_n (i := 2) dX12_next_69 (rfl : 69 + 1 = 70) rfl rfl ?_
                refine k_bipush (v := 8) dX12_next_70 (rfl : 70 + 2 = 72) (by decide) ?_
                refine k_irem dX12_next_72 (rfl : 72 + 1 = 73) (by decide) ?_
                refine k_iadd dX12_next_73 (rfl : 73 + 1 = 74) ?_
                refine k_iret rfl rfl dX12_next_74 (Nat.le_of_ble_eq_true rfl) (Nat.le_of_ble_eq_true rfl) ?_
                exact kRt_of (congrArg (fun z => some (Value.int z)) (Eq.symm (Eq.trans (if_neg (show ¬ (a2 = 0) from b11)) (Eq.trans (if_neg (show ¬ (a2 = 1) from b16)) (Eq.trans (if_pos (show a2 = 7 from b22)) (Eq.trans (if_neg (show ¬ (a2 < 3) from b30)) (Eq.trans (if_neg (show ¬ (5 < a2) from b35)) (Eq.trans (if_pos (show a2 < 1 from b43)) (if_neg (show ¬ (a2 < 5) from b56)))))))))) rfl
            · refine k_iload_n (i := 1) dX12_next_46 (rfl : 46 + 1 = 47) rfl rfl ?_
              refine k_iconst (v := 3) dX12_next_47 (rfl : 47 + 1 = 48) (by decide) ?_
              refine k_icmp_gt (tgt := 54) dX12_next_48 (rfl : 48 + 3 = 51) (by decide) (fun b48 => ?_) (fun b48 => ?_)
              · refine k_iload_n (i := 1) dX12_next_54 (rfl : 54 + 1 = 55) rfl rfl ?_
                refine k_iconst (v := 5) dX12_next_55 (rfl : 55 + 1 = 56) (by decide) ?_
                refine k_icmp_lt (tgt := 62) dX12_next_56 (rfl : 56 + 3 = 59) (by decide) (fun b56 => ?_) (fun b56 => ?_)
                · refine k_bipush (v := 8) dX12_next_62 (rfl : 62 + 2 = 64) (by decide) ?_
                  refine k_iload_n (i := 3) dX12_next_64 (rfl : 64 + 1 = 65) rfl rfl ?_
                  refine k_bipush (v := 8) dX12_next_65 (rfl : 65 + 2 = 67) (by decide) ?_
                  refine k_irem dX12_next_67 (rfl : 67 + 1 = 68) (by decide) ?_
                  refine k_imul dX12_next_68 (rfl : 68 + 1 = 69) ?_
                  refine k_iload_n (i := 2) dX12_next_69 (rfl : 69 + 1 = 70) rfl rfl ?_
                  refine k_bipush (v := 8) dX12_next_70 (rfl : 70 + 2 = 72) (by decide) ?_
                  refine k_irem dX12_next_72 (rfl : 72 + 1 = 73) (by decide) ?_
                  refine k_iadd dX12_next_73 (rfl : 73 + 1 = 74) ?_
                  refine k_iret rfl rfl dX12_next_74 (Nat.le_of_ble_eq_true rfl) (Nat.le_of_ble_eq_true rfl) ?_
                  exact kRt_of (congrArg (fun z => some (Value.int z)) (Eq.symm (Eq.trans (if_neg (show ¬ (a2 = 0) from b11)) (Eq.trans (if_neg (show ¬ (a2 = 1) from b16)) (Eq.trans (if_pos (show a2 = 7 from b22)) (Eq.trans (if_neg (show ¬ (a2 < 3) from b30)) (Eq.trans (if_neg (show ¬ (5 < a2) from b35)) (Eq.trans (if_neg (show ¬ (a2 < 1) from b43)) (Eq.trans (if_pos (show 3 < a2 from b48)) (if_pos (show a2 < 5 from b56))))))))))) rfl
                · refine k_iinc (i := 3) dX12_next_59 (rfl : 59 + 3 = 62) rfl (Nat.le_of_ble_eq_true rfl) rfl ?_
                  refine k_ls (ls2 := [.int a1, .int a2, .int (((a1 - a1 / 8 * 8) + Int32.ofInt 1) + Int32.ofInt 7), .int ((a1 / 8) + Int32.ofInt 7)]) rfl ?_
                  refine k_bipush (v := 8) dX12_next_62 (rfl : 62 + 2 = 64) (by decide) ?_
                  refine k_iload_n (i := 3) dX12_next_64 (rfl : 64 + 1 = 65) rfl rfl ?_
                  refine k_bipush (v := 8) dX12_next_65 (rfl : 65 + 2 = 67) (by decide) ?_
                  refine k_irem dX12_next_67 (rfl : 67 + 1 = 68) (by decide) ?_
                  refine k_imul dX12_next_68 (rfl : 68 + 1 = 69) ?_
                  refine k_iload_n (i := 2) dX12_next_69 (rfl : 69 + 1 = 70) rfl rfl ?_
                  refine k_bipush (v := 8) dX12_next_70 (rfl : 70 + 2 = 72) (by decide) ?_
                  refine k_irem dX12_next_72 (rfl : 72 + 1 = 73) (by decide) ?_
                  refine k_iadd dX12_next_73 (rfl : 73 + 1 = 74) ?_
                  refine k_iret rfl rfl dX12_next_74 (Nat.le_of_ble_eq_true rfl) (Nat.le_of_ble_eq_true rfl) ?_
                  exact kRt_of (congrArg (fun z => some (Value.int z)) (Eq.symm (Eq.trans (if_neg (show ¬ (a2 = 0) from b11)) (Eq.trans (if_neg (show ¬ (a2 = 1) from b16)) (Eq.trans (if_pos (show a2 = 7 from b22)) (Eq.trans (if_neg (show ¬ (a2 < 3) from b30)) (Eq.trans (if_neg (show ¬ (5 < a2) from b35)) (Eq.trans (if_neg (show ¬ (a2 < 1) from b43)) (Eq.trans (if_pos (show 3 < a2 from b48)) (if_neg (show ¬ (a2 < 5) from b56))))))))))) rfl
              · refine k_iinc (i := 3) dX12_next_51 (rfl : 51 + 3 = 54) rfl (Nat.le_of_ble_eq_true rfl) rfl ?_
                refine k_ls (ls2 := [.int a1, .int a2, .int (((a1 - a1 / 8 * 8) + Int32.ofInt 1) + Int32.ofInt 7), .int ((a1 / 8) + Int32.ofInt 1)]) rfl ?_
                refine k_iload_n (i := 1) dX12_next_54 (rfl : 54 + 1 = 55) rfl rfl ?_
                refine k_iconst (v := 5) dX12_next_55 (rfl : 55 + 1 = 56) (by decide) ?_
                refine k_icmp_lt (tgt := 62) dX12_next_56 (rfl : 56 + 3 = 59) (by decide) (fun b56 => ?_) (fun b56 => ?_)
                · refine k_bipush (v := 8) dX12_next_62 (rfl : 62 + 2 = 64) (by decide) ?_
                  refine k_iload_n (i := 3) dX12_next_64 (rfl : 64 + 1 = 65) rfl rfl ?_
                  refine k_bipush (v := 8) dX12_next_65 (rfl : 65 + 2 = 67) (by decide) ?_
                  refine k_irem dX12_next_67 (rfl : 67 + 1 = 68) (by decide) ?_
                  refine k_imul dX12_next_68 (rfl : 68 + 1 = 69) ?_
                  refine k_iload_n (i := 2) dX12_next_69 (rfl : 69 + 1 = 70) rfl rfl ?_
                  refine k_bipush (v := 8) dX12_next_70 (rfl : 70 + 2 = 72) (by decide) ?_
                  refine k_irem dX12_next_72 (rfl : 72 + 1 = 73) (by decide) ?_
                  refine k_iadd dX12_next_73 (rfl : 73 + 1 = 74) ?_
                  refine k_iret rfl rfl dX12_next_74 (Nat.le_of_ble_eq_true rfl) (Nat.le_of_ble_eq_true rfl) ?_
                  exact kRt_of (congrArg (fun z => some (Value.int z)) (Eq.symm (Eq.trans (if_neg (show ¬ (a2 = 0) from b11)) (Eq.trans (if_neg (show ¬ (a2 = 1) from b16)) (Eq.trans (if_pos (show a2 = 7 from b22)) (Eq.trans (if_neg (show ¬ (a2 < 3) from b30)) (Eq.trans (if_neg (show ¬ (5 < a2) from b35)) (Eq.trans (if_neg (show ¬ (a2 < 1) from b43)) (Eq.trans (if_neg (show ¬ (3 < a2) from b48)) (if_pos (show a2 < 5 from b56))))))))))) rfl
                · refine k_iinc (i := 3) dX12_next_59 (rfl : 59 + 3 = 62) rfl (Nat.le_of_ble_eq_true rfl) rfl ?_
                  refine k_ls (ls2 := [.int a1, .int a2, .int (((a1 - a1 / 8 * 8) + Int32.ofInt 1) + Int32.ofInt 7), .int (((a1 / 8) + Int32.ofInt 1) + Int32.ofInt 7)]) rfl ?_
                  refine k_bipush (v := 8) dX12_next_62 (rfl : 62 + 2 = 64) (by decide) ?_
                  refine k_iload_n (i := 3) dX12_next_64 (rfl : 64 + 1 = 65) rfl rfl ?_
                  refine k_bipush (v := 8) dX12_next_65 (rfl : 65 + 2 = 67) (by decide) ?_
                  refine k_irem dX12_next_67 (rfl : 67 + 1 = 68) (by decide) ?_
                  refine k_imul dX12_next_68 (rfl : 68 + 1 = 69) ?_
                  refine k_iload_n (i := 2) dX12_next_69 (rfl : 69 + 1 = 70) rfl rfl ?_
                  refine k_bipush (v := 8) dX12_next_70 (rfl : 70 + 2 = 72) (by decide) ?_
                  refine k_irem dX12_next_72 (rfl : 72 + 1 = 73) (by decide) ?_
                  refine k_iadd dX12_next_73 (rfl : 73 + 1 = 74) ?_
                  refine k_iret rfl rfl dX12_next_74 (Nat.le_of_ble_eq_true rfl) (Nat.le_of_ble_eq_true rfl) ?_
                  exact kRt_of (congrArg (fun z => some (Value.int z)) (Eq.symm (Eq.trans (if_neg (show ¬ (a2 = 0) from b11)) (Eq.trans (if_neg (show ¬ (a2 = 1) from b16)) (Eq.trans (if_pos (show a2 = 7 from b22)) (Eq.trans (if_neg (show ¬ (a2 < 3) from b30)) (Eq.trans (if_neg (show ¬ (5 < a2) from b35)) (Eq.trans (if_neg (show ¬ (a2 < 1) from b43)) (Eq.trans (if_neg (show ¬ (3 < a2) from b48)) (if_neg (show ¬ (a2 < 5) from b56))))))))))) rfl
theorem p8_plea {a w : Int32} (h : kP8 a) (hw : ∃ k, k < 3 ∧ w = nI k) : vp_in (f_X12_pleaAt a w) 116 := by
  obtain ⟨n, hn, rfl⟩ := h
  obtain ⟨k, hk, rfl⟩ := hw
  have h2 : ∀ n, n < 8 → ∀ k, k < 3 → f_X12_pleaAt (nI n) (nI k) = nI (92 + 3 * n + k) := by decide
  rw [h2 n hn k hk]
  exact vp_in_nI (by omega) (by omega)
theorem plea_at {n k : Nat} (hn : n < 8) (hk : k < 3) : Int32.toNatClampNeg (f_X12_pleaAt (nI n) (nI k)) = 92 + 3 * n + k := by
  have h2 : ∀ n, n < 8 → ∀ k, k < 3 → f_X12_pleaAt (nI n) (nI k) = nI (92 + 3 * n + k) := by decide
  rw [h2 n hn k hk, nI_clamp (by omega)]
theorem w3_0 : ∃ k, k < 3 ∧ (0 : Int32) = nI k := ⟨0, by decide, rfl⟩
theorem w3_1 : ∃ k, k < 3 ∧ (1 : Int32) = nI k := ⟨1, by decide, rfl⟩
theorem w3_2 : ∃ k, k < 3 ∧ (2 : Int32) = nI k := ⟨2, by decide, rfl⟩
def f_X12_until (v : Nat → Int32) (a1 : Int32) : Int32 := ((v (Int32.toNatClampNeg (f_X12_pleaAt a1 1))) + 24)
set_option maxRecDepth 100000 in
set_option maxHeartbeats 4000000 in
theorem m_X12_until {x : kY} {a9 : kH} {z9 : kE × kE} {a1 : Int32} (hp : kP8 a1) : kMet kX12_until false 0 0 [.ref 116, .int a1] (kTp a9 (kHr x z9)) 130 (kRt (some (.int (f_X12_until (x.2 0) a1))) (kTp a9 (kHr x z9)) 130) := by
  refine kMet.in (by decide) rfl rfl _ rfl ?_
  refine k_aload_n (i := 0) dX12_until_0 (rfl : 0 + 1 = 1) rfl rfl ?_
  refine k_get 12 7 fg_X12_16 dX12_until_1 (rfl : 1 + 3 = 4) (Nat.le_of_ble_eq_true rfl) rfl rfl ?_
  refine k_iload_n (i := 1) dX12_until_4 (rfl : 4 + 1 = 5) rfl rfl ?_
  refine k_iconst (v := 1) dX12_until_5 (rfl : 5 + 1 = 6) (by decide) ?_
  refine k_callSd2 cv_X12_77 ⟨Nat.le_of_ble_eq_true rfl, Nat.le_of_ble_eq_true rfl⟩ (m_X12_pleaAt) dX12_until_6 (rfl : 6 + 3 = 9) rfl ⟨Nat.le_of_ble_eq_true rfl, Nat.le_of_ble_eq_true rfl⟩ ?_
  refine k_iald dX12_until_9 (rfl : 9 + 1 = 10) (Nat.le_of_ble_eq_true rfl) rfl (p8_plea hp w3_1) ?_
  refine k_bipush (v := 24) dX12_until_10 (rfl : 10 + 2 = 12) (by decide) ?_
  refine k_iadd dX12_until_12 (rfl : 12 + 1 = 13) ?_
  refine k_iret rfl rfl dX12_until_13 (Nat.le_of_ble_eq_true rfl) (Nat.le_of_ble_eq_true rfl) ?_
  exact kRt_of rfl rfl
def poL (v : Nat → Int32) (c : Int32) : Nat → Nat → Int32
  | 0, j => (-1)
  | k + 1, j => if (v (Int32.toNatClampNeg (f_X12_pleaAt (nI j) 0))) = c then (nI j) else (poL v c k (j + 1))
set_option maxRecDepth 100000 in
set_option maxHeartbeats 4000000 in
theorem lpoL {x : kY} {a9 : kH} {z9 : kE × kE} {c : Int32}  (hv : kMv (x.2 0)) : ∀ (k : Nat) (j : Nat), j + k = (Int32.toNatClampNeg ((x.2 0) 7)) → kEv kX12_pleaOf (kRm kX12_pleaOf 0 0) (kFm false 0 0 ((kRt (some (.int (poL (x.2 0) c k j))) (kTp a9 (kHr x z9)) 130))) false 2 [.ref 116, .int c, .int (nI j)] [] (kTp a9 (kHr x z9)) 130 0 0 := by
  intro k
  induction k with
  | zero =>
    intro j hj
    refine k_iload_n (i := 2) dX12_pleaOf_2 (rfl : 2 + 1 = 3) rfl rfl ?_
    refine k_aload_n (i := 0) dX12_pleaOf_3 (rfl : 3 + 1 = 4) rfl rfl ?_
    refine k_get 12 7 fg_X12_16 dX12_pleaOf_4 (rfl : 4 + 3 = 7) (Nat.le_of_ble_eq_true rfl) rfl rfl ?_
    refine k_bipush (v := 7) dX12_pleaOf_7 (rfl : 7 + 2 = 9) (by decide) ?_
    refine k_ialdc (c := 7) (by decide) dX12_pleaOf_9 (rfl : 9 + 1 = 10) (Nat.le_of_ble_eq_true rfl) rfl (vp_in_iff.mpr (by decide)) ?_
    refine k_icmp_ge (tgt := 35) dX12_pleaOf_10 (rfl : 10 + 3 = 13) (by decide) (fun b10 => ?_) (fun b10 => by exact absurd (cl_le (by omega)) b10)
    refine k_iconst (v := (-1)) dX12_pleaOf_35 (rfl : 35 + 1 = 36) (by decide) ?_
    refine k_iret rfl rfl dX12_pleaOf_36 (Nat.le_of_ble_eq_true rfl) (Nat.le_of_ble_eq_true rfl) ?_
    have e9 : (poL (x.2 0) c 0 j) = (-1) := by rw [poL]
    exact kRt_of (congrArg (fun z => some (Value.int z)) (Eq.symm e9)) rfl
  | succ k ih =>
    intro j hj
    refine k_iload_n (i := 2) dX12_pleaOf_2 (rfl : 2 + 1 = 3) rfl rfl ?_
    refine k_aload_n (i := 0) dX12_pleaOf_3 (rfl : 3 + 1 = 4) rfl rfl ?_
    refine k_get 12 7 fg_X12_16 dX12_pleaOf_4 (rfl : 4 + 3 = 7) (Nat.le_of_ble_eq_true rfl) rfl rfl ?_
    refine k_bipush (v := 7) dX12_pleaOf_7 (rfl : 7 + 2 = 9) (by decide) ?_
    refine k_ialdc (c := 7) (by decide) dX12_pleaOf_9 (rfl : 9 + 1 = 10) (Nat.le_of_ble_eq_true rfl) rfl (vp_in_iff.mpr (by decide)) ?_
    refine k_icmp_ge (tgt := 35) dX12_pleaOf_10 (rfl : 10 + 3 = 13) (by decide) (fun b10 => by exact absurd b10 (cl_nle (by omega))) (fun b10 => ?_)
    refine k_aload_n (i := 0) dX12_pleaOf_13 (rfl : 13 + 1 = 14) rfl rfl ?_
    refine k_get 12 7 fg_X12_16 dX12_pleaOf_14 (rfl : 14 + 3 = 17) (Nat.le_of_ble_eq_true rfl) rfl rfl ?_
    refine k_iload_n (i := 2) dX12_pleaOf_17 (rfl : 17 + 1 = 18) rfl rfl ?_
    refine k_iconst (v := 0) dX12_pleaOf_18 (rfl : 18 + 1 = 19) (by decide) ?_
    refine k_callSd2 cv_X12_77 ⟨Nat.le_of_ble_eq_true rfl, Nat.le_of_ble_eq_true rfl⟩ (m_X12_pleaAt) dX12_pleaOf_19 (rfl : 19 + 3 = 22) rfl ⟨Nat.le_of_ble_eq_true rfl, Nat.le_of_ble_eq_true rfl⟩ ?_
    refine k_iald dX12_pleaOf_22 (rfl : 22 + 1 = 23) (Nat.le_of_ble_eq_true rfl) rfl (p8_plea ⟨j, by have := mv_p hv; omega, rfl⟩ w3_0) ?_
    refine k_iload_n (i := 1) dX12_pleaOf_23 (rfl : 23 + 1 = 24) rfl rfl ?_
    refine k_icmp_ne (tgt := 29) dX12_pleaOf_24 (rfl : 24 + 3 = 27) (by decide) (fun b24 => ?_) (fun b24 => ?_)
    · refine k_iinc (i := 2) (v := (nI (j + 1))) dX12_pleaOf_29 (rfl : 29 + 3 = 32) rfl (Nat.le_of_ble_eq_true rfl) (nI_1 _) ?_
      refine k_ls (ls2 := [.ref 116, .int c, .int (nI (j + 1))]) rfl ?_
      refine k_goto (tgt := 2) dX12_pleaOf_32 (by decide) ?_
      rw [poL, if_neg (show ¬ (((x.2 0) (Int32.toNatClampNeg (f_X12_pleaAt (nI j) 0))) = c) from b24)]
      exact ih (j + 1) (by omega)
    · refine k_iload_n (i := 2) dX12_pleaOf_27 (rfl : 27 + 1 = 28) rfl rfl ?_
      refine k_iret rfl rfl dX12_pleaOf_28 (Nat.le_of_ble_eq_true rfl) (Nat.le_of_ble_eq_true rfl) ?_
      have e9 : (poL (x.2 0) c (k + 1) j) = (nI j) := by rw [poL, if_pos (show ((x.2 0) (Int32.toNatClampNeg (f_X12_pleaAt (nI j) 0))) = c from b24)]
      exact kRt_of (congrArg (fun z => some (Value.int z)) (Eq.symm e9)) rfl
set_option maxRecDepth 100000 in
set_option maxHeartbeats 4000000 in
theorem m_X12_pleaOf {x : kY} {a9 : kH} {z9 : kE × kE} {c : Int32} (hv : kMv (x.2 0)) : kMet kX12_pleaOf false 0 0 [.ref 116, .int c] (kTp a9 (kHr x z9)) 130 (kRt (some (.int (poL (x.2 0) c (Int32.toNatClampNeg ((x.2 0) 7)) 0))) (kTp a9 (kHr x z9)) 130) := by
  refine kMet.in (by decide) rfl rfl _ rfl ?_
  refine k_iconst (v := 0) dX12_pleaOf_0 (rfl : 0 + 1 = 1) (by decide) ?_
  refine k_istore_n (i := 2) dX12_pleaOf_1 (rfl : 1 + 1 = 2) rfl (Nat.le_of_ble_eq_true rfl) ?_
  exact lpoL hv _ 0 (by omega)
