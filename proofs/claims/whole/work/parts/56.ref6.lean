/-- where the reading stands, and the end -/
def kHe (x : kY) : Prop := ∃ e q : Nat, e ≤ 60 ∧ q ≤ e ∧ x.1 11 = nI e ∧ x.1 10 = nI q
theorem he_lt {x : kY} (h : kHe x) (hl : ¬ x.1 11 ≤ x.1 10) : ∃ e q : Nat, e ≤ 60 ∧ q < e ∧ x.1 11 = nI e ∧ x.1 10 = nI q := by
  obtain ⟨e, q, h1, h2, h3, h4⟩ := h
  rw [h3, h4] at hl
  refine ⟨e, q, h1, ?_, h3, h4⟩
  rcases Nat.lt_or_ge q e with z | z
  · exact z
  · exact absurd (nI_le (a := e) (b := q) z (by omega)) hl
theorem he_in {x : kY} (h : kHe x) (hl : ¬ x.1 11 ≤ x.1 10) : vp_in (x.1 10) 60 := by
  obtain ⟨e, q, h1, h2, h3, h4⟩ := he_lt h hl
  rw [h4]
  exact vp_in_nI (by omega) (by omega)
theorem he_up {x : kY} (h : kHe x) (hl : ¬ x.1 11 ≤ x.1 10) : kHe (yS x 10 (x.1 10 + 1)) := by
  obtain ⟨e, q, h1, h2, h3, h4⟩ := he_lt h hl
  refine ⟨e, q + 1, h1, h2, h3, ?_⟩
  show x.1 10 + 1 = nI (q + 1)
  rw [h4, nI_1]
theorem he_13 {x : kY} {v : Int32} (h : kHe x) : kHe (yS x 13 v) := h
def kB01 (v : Int32) : Prop := v = 0 ∨ v = 1
theorem nar_or {a b : Int32} (ha : kB01 a) (hb : kB01 b) : narrow .boolean (.int (a ||| b)) = .int (a ||| b) ∧ kB01 (a ||| b) := by
  rcases ha with rfl | rfl <;> rcases hb with rfl | rfl
  · exact ⟨rfl, Or.inl rfl⟩
  · exact ⟨rfl, Or.inr rfl⟩
  · exact ⟨rfl, Or.inr rfl⟩
  · exact ⟨rfl, Or.inr rfl⟩
def f_X12_sign (x : kY)  : Int32 := if (x.1 11) ≤ (x.1 10) then (-1) else ((x.2 6) (Int32.toNatClampNeg (x.1 10)))
set_option maxRecDepth 100000 in
set_option maxHeartbeats 4000000 in
theorem m_X12_sign {x : kY} {a9 : kH} {z9 : kE × kE} (he : kHe x) : kMet kX12_sign false 0 0 [.ref 116] (kTp a9 (kHr x z9)) 130 (kRt (some (.int (f_X12_sign x ))) (kTp a9 (kHr x z9)) 130) := by
  refine kMet.in (by decide) rfl rfl _ rfl ?_
  refine k_aload_n (i := 0) dX12_sign_0 (rfl : 0 + 1 = 1) rfl rfl ?_
  refine k_get 12 21 fg_X12_231 dX12_sign_1 (rfl : 1 + 3 = 4) (Nat.le_of_ble_eq_true rfl) rfl rfl ?_
  refine k_aload_n (i := 0) dX12_sign_4 (rfl : 4 + 1 = 5) rfl rfl ?_
  refine k_get 12 22 fg_X12_234 dX12_sign_5 (rfl : 5 + 3 = 8) (Nat.le_of_ble_eq_true rfl) rfl rfl ?_
  refine k_icmp_ge (tgt := 23) dX12_sign_8 (rfl : 8 + 3 = 11) (by decide) (fun b8 => ?_) (fun b8 => ?_)
  · refine k_iconst (v := (-1)) dX12_sign_23 (rfl : 23 + 1 = 24) (by decide) ?_
    refine k_iret rfl rfl dX12_sign_24 (Nat.le_of_ble_eq_true rfl) (Nat.le_of_ble_eq_true rfl) ?_
    exact kRt_of (congrArg (fun z => some (Value.int z)) (Eq.symm (if_pos (show (x.1 11) ≤ (x.1 10) from b8)))) rfl
  · refine k_aload_n (i := 0) dX12_sign_11 (rfl : 11 + 1 = 12) rfl rfl ?_
    refine k_get 12 15 fg_X12_35 dX12_sign_12 (rfl : 12 + 3 = 15) (Nat.le_of_ble_eq_true rfl) rfl rfl ?_
    refine k_aload_n (i := 0) dX12_sign_15 (rfl : 15 + 1 = 16) rfl rfl ?_
    refine k_get 12 21 fg_X12_231 dX12_sign_16 (rfl : 16 + 3 = 19) (Nat.le_of_ble_eq_true rfl) rfl rfl ?_
    refine k_iald dX12_sign_19 (rfl : 19 + 1 = 20) (Nat.le_of_ble_eq_true rfl) rfl (he_in he b8) ?_
    refine k_goto (tgt := 24) dX12_sign_20 (by decide) ?_
    refine k_iret rfl rfl dX12_sign_24 (Nat.le_of_ble_eq_true rfl) (Nat.le_of_ble_eq_true rfl) ?_
    exact kRt_of (congrArg (fun z => some (Value.int z)) (Eq.symm (if_neg (show ¬ ((x.1 11) ≤ (x.1 10)) from b8)))) rfl
theorem sg_no {x : kY} (h : x.1 11 ≤ x.1 10) : f_X12_sign x = (-1) := if_pos h
theorem sg_lt {x : kY} (h : ¬ f_X12_sign x = (-1)) : ¬ x.1 11 ≤ x.1 10 := fun q => h (sg_no q)
theorem sg_dg {x : kY} (h : ¬ f_X12_isIn (f_X12_sign x) 48 57 = 0) : ¬ x.1 11 ≤ x.1 10 := by
  intro q
  rw [sg_no q] at h
  exact h (by decide)
def g_X12_expects (x : kY) (a1 : Int32) : kY := if (x.1 13) = 0 then (if (f_X12_sign x ) = a1 then (yS (yS x 13 0) 10 ((x.1 10) + 1)) else (yS (yS x 13 1) 10 ((x.1 10) + 0))) else x
set_option maxRecDepth 100000 in
set_option maxHeartbeats 4000000 in
theorem m_X12_expects {x : kY} {a9 : kH} {z9 : kE × kE} {a1 : Int32} (he : kHe x) : kMet kX12_expects false 0 0 [.ref 116, .int a1] (kTp a9 (kHr x z9)) 130 (kRt (none) (kTp a9 (kHr (g_X12_expects x a1) z9)) 130) := by
  refine kMet.in (by decide) rfl rfl _ rfl ?_
  refine k_aload_n (i := 0) dX12_expects_0 (rfl : 0 + 1 = 1) rfl rfl ?_
  refine k_get 12 24 fg_X12_237 dX12_expects_1 (rfl : 1 + 3 = 4) (Nat.le_of_ble_eq_true rfl) rfl rfl ?_
  refine k_if_eq (tgt := 8) dX12_expects_4 (rfl : 4 + 3 = 7) (by decide) (fun b4 => ?_) (fun b4 => ?_)
  · refine k_aload_n (i := 0) dX12_expects_8 (rfl : 8 + 1 = 9) rfl rfl ?_
    refine k_aload_n (i := 0) dX12_expects_9 (rfl : 9 + 1 = 10) rfl rfl ?_
    refine k_callVd0 cv_X12_240 ⟨Nat.le_of_ble_eq_true rfl, Nat.le_of_ble_eq_true rfl⟩ (m_X12_sign he) dX12_expects_10 (rfl : 10 + 3 = 13) (Nat.le_of_ble_eq_true rfl) rfl rfl rfl ⟨Nat.le_of_ble_eq_true rfl, Nat.le_of_ble_eq_true rfl⟩ ?_
    refine k_iload_n (i := 1) dX12_expects_13 (rfl : 13 + 1 = 14) rfl rfl ?_
    refine k_icmp_eq (tgt := 21) dX12_expects_14 (rfl : 14 + 3 = 17) (by decide) (fun b14 => ?_) (fun b14 => ?_)
    · refine k_iconst (v := 0) dX12_expects_21 (rfl : 21 + 1 = 22) (by decide) ?_
      refine k_put 12 24 fp_X12_237 dX12_expects_22 (rfl : 22 + 3 = 25) (Nat.le_of_ble_eq_true rfl) rfl (Nat.le_of_ble_eq_true rfl) rfl rfl ?_
      refine kf_Y13 (v := 0) rfl ?_
      refine k_aload_n (i := 0) dX12_expects_25 (rfl : 25 + 1 = 26) rfl rfl ?_
      refine k_dup dX12_expects_26 (rfl : 26 + 1 = 27) rfl ?_
      refine k_get 12 21 fg_X12_231 dX12_expects_27 (rfl : 27 + 3 = 30) (Nat.le_of_ble_eq_true rfl) rfl rfl ?_
      refine k_aload_n (i := 0) dX12_expects_30 (rfl : 30 + 1 = 31) rfl rfl ?_
      refine k_get 12 24 fg_X12_237 dX12_expects_31 (rfl : 31 + 3 = 34) (Nat.le_of_ble_eq_true rfl) rfl rfl ?_
      refine k_if_eq (tgt := 41) dX12_expects_34 (rfl : 34 + 3 = 37) (by decide) (fun b34 => ?_) (fun b34 => by exact absurd (by first | decide | (show (0 : Int32) = 0; decide)) b34)
      refine k_iconst (v := 1) dX12_expects_41 (rfl : 41 + 1 = 42) (by decide) ?_
      refine k_iadd dX12_expects_42 (rfl : 42 + 1 = 43) ?_
      refine k_put 12 21 fp_X12_231 dX12_expects_43 (rfl : 43 + 3 = 46) (Nat.le_of_ble_eq_true rfl) rfl (Nat.le_of_ble_eq_true rfl) rfl rfl ?_
      refine kf_Y10 (v := ((x.1 10) + 1)) rfl ?_
      refine k_vret rfl dX12_expects_46 (Nat.le_of_ble_eq_true rfl) (Nat.le_of_ble_eq_true rfl) ?_
      exact kRt_of rfl (congrArg (fun z => kTp a9 (kHr z z9)) (Eq.symm (Eq.trans (if_pos (show (x.1 13) = 0 from b4)) (if_pos (show (f_X12_sign x ) = a1 from b14)))))
    · refine k_iconst (v := 1) dX12_expects_17 (rfl : 17 + 1 = 18) (by decide) ?_
      refine k_goto (tgt := 22) dX12_expects_18 (by decide) ?_
      refine k_put 12 24 fp_X12_237 dX12_expects_22 (rfl : 22 + 3 = 25) (Nat.le_of_ble_eq_true rfl) rfl (Nat.le_of_ble_eq_true rfl) rfl rfl ?_
      refine kf_Y13 (v := 1) rfl ?_
      refine k_aload_n (i := 0) dX12_expects_25 (rfl : 25 + 1 = 26) rfl rfl ?_
      refine k_dup dX12_expects_26 (rfl : 26 + 1 = 27) rfl ?_
      refine k_get 12 21 fg_X12_231 dX12_expects_27 (rfl : 27 + 3 = 30) (Nat.le_of_ble_eq_true rfl) rfl rfl ?_
      refine k_aload_n (i := 0) dX12_expects_30 (rfl : 30 + 1 = 31) rfl rfl ?_
      refine k_get 12 24 fg_X12_237 dX12_expects_31 (rfl : 31 + 3 = 34) (Nat.le_of_ble_eq_true rfl) rfl rfl ?_
      refine k_if_eq (tgt := 41) dX12_expects_34 (rfl : 34 + 3 = 37) (by decide) (fun b34 => by exact absurd b34 (by first | decide | (show ¬ (1 : Int32) = 0; decide))) (fun b34 => ?_)
      refine k_iconst (v := 0) dX12_expects_37 (rfl : 37 + 1 = 38) (by decide) ?_
      refine k_goto (tgt := 42) dX12_expects_38 (by decide) ?_
      refine k_iadd dX12_expects_42 (rfl : 42 + 1 = 43) ?_
      refine k_put 12 21 fp_X12_231 dX12_expects_43 (rfl : 43 + 3 = 46) (Nat.le_of_ble_eq_true rfl) rfl (Nat.le_of_ble_eq_true rfl) rfl rfl ?_
      refine kf_Y10 (v := ((x.1 10) + 0)) rfl ?_
      refine k_vret rfl dX12_expects_46 (Nat.le_of_ble_eq_true rfl) (Nat.le_of_ble_eq_true rfl) ?_
      exact kRt_of rfl (congrArg (fun z => kTp a9 (kHr z z9)) (Eq.symm (Eq.trans (if_pos (show (x.1 13) = 0 from b4)) (if_neg (show ¬ ((f_X12_sign x ) = a1) from b14)))))
  · refine k_vret rfl dX12_expects_7 (Nat.le_of_ble_eq_true rfl) (Nat.le_of_ble_eq_true rfl) ?_
    exact kRt_of rfl (congrArg (fun z => kTp a9 (kHr z z9)) (Eq.symm (if_neg (show ¬ ((x.1 13) = 0) from b4))))
/-- what reading leaves -/
def kRx (x y : kY) : Prop := y.2 = x.2 ∧ (∀ k, k ≠ 10 → k ≠ 13 → y.1 k = x.1 k) ∧ (kHe x → kHe y) ∧ (kB01 (x.1 13) → kB01 (y.1 13))
theorem kRx_r {x : kY} : kRx x x := ⟨rfl, fun _ _ _ => rfl, id, id⟩
theorem kRx_t {x y z : kY} (h1 : kRx x y) (h2 : kRx y z) : kRx x z := ⟨h2.1.trans h1.1, fun k a b => (h2.2.1 k a b).trans (h1.2.1 k a b), fun h => h2.2.2.1 (h1.2.2.1 h), fun h => h2.2.2.2 (h1.2.2.2 h)⟩
theorem kRx_13 {x : kY} {v : Int32} (h : kB01 v) : kRx x (yS x 13 v) := ⟨rfl, fun k _ h2 => if_neg h2, id, fun _ => h⟩
theorem kRx_10 {x : kY} (h : ¬ x.1 11 ≤ x.1 10) : kRx x (yS x 10 (x.1 10 + 1)) := ⟨rfl, fun k h1 _ => if_neg h1, fun q => he_up q h, id⟩
theorem ex_x {x : kY} {c : Int32} (hc : ¬ c = (-1)) : kRx x (g_X12_expects x c) := by
  unfold g_X12_expects
  by_cases h1 : x.1 13 = 0
  · rw [if_pos h1]
    by_cases h2 : f_X12_sign x = c
    · rw [if_pos h2]
      have h3 : ¬ x.1 11 ≤ x.1 10 := sg_lt (by rw [h2]; exact hc)
      exact kRx_t (kRx_13 (Or.inl rfl)) (kRx_10 (x := yS x 13 0) h3)
    · rw [if_neg h2]
      refine kRx_t (kRx_13 (v := 1) (Or.inr rfl)) ⟨rfl, fun k h1 _ => if_neg h1, fun q => ?_, id⟩
      obtain ⟨e, q1, h4, h5, h6, h7⟩ := q
      refine ⟨e, q1, h4, h5, h6, ?_⟩
      show x.1 10 + 0 = nI q1
      rw [Int32.add_zero]
      exact h7
  · rw [if_neg h1]; exact kRx_r
def dgL (a : Int32) : Nat → kY → Nat → Int32 → kY × Int32 × Int32
  | 0, x, j, n => if (x.1 13) = 0 then (x, n, (nI j)) else (x, n, (nI j))
  | k + 1, x, j, n => if (x.1 13) = 0 then (if (f_X12_isIn (f_X12_sign x ) 48 57) = 0 then (x, n, (nI j)) else (dgL a k (yS x 10 ((x.1 10) + 1)) (j + 1) (((10 * n) + (f_X12_sign x )) - 48))) else (x, n, (nI j))
set_option maxRecDepth 100000 in
set_option maxHeartbeats 4000000 in
theorem ldgL {a9 : kH} {z9 : kE × kE} {Q : kQ} {a : Int32}  : ∀ (k : Nat) (x : kY) (j : Nat) (n : Int32), j + k = (Int32.toNatClampNeg a) → kHe x → (kEv kX12_digits (kRm kX12_digits 0 0) (kFm false 0 0 (Q)) false 59 [.ref 116, .int a, .int (dgL a k x j n).2.1, .int (dgL a k x j n).2.2] [] (kTp a9 (kHr (dgL a k x j n).1 z9)) 130 0 0) → kEv kX12_digits (kRm kX12_digits 0 0) (kFm false 0 0 (Q)) false 4 [.ref 116, .int a, .int n, .int (nI j)] [] (kTp a9 (kHr x z9)) 130 0 0 := by
  intro k
  induction k with
  | zero =>
    intro x j n hj he hx
    refine k_aload_n (i := 0) dX12_digits_4 (rfl : 4 + 1 = 5) rfl rfl ?_
    refine k_get 12 24 fg_X12_237 dX12_digits_5 (rfl : 5 + 3 = 8) (Nat.le_of_ble_eq_true rfl) rfl rfl ?_
    refine k_if_ne (tgt := 59) dX12_digits_8 (rfl : 8 + 3 = 11) (by decide) (fun b8 => ?_) (fun b8 => ?_)
    · rw [dgL, if_neg (show ¬ ((x.1 13) = 0) from b8)] at hx
      exact hx
    · refine k_iload_n (i := 3) dX12_digits_11 (rfl : 11 + 1 = 12) rfl rfl ?_
      refine k_iload_n (i := 1) dX12_digits_12 (rfl : 12 + 1 = 13) rfl rfl ?_
      refine k_icmp_ge (tgt := 59) dX12_digits_13 (rfl : 13 + 3 = 16) (by decide) (fun b13 => ?_) (fun b13 => by exact absurd (cl_le (by omega)) b13)
      rw [dgL, if_pos (show (x.1 13) = 0 from b8)] at hx
      exact hx
  | succ k ih =>
    intro x j n hj he hx
    refine k_aload_n (i := 0) dX12_digits_4 (rfl : 4 + 1 = 5) rfl rfl ?_
    refine k_get 12 24 fg_X12_237 dX12_digits_5 (rfl : 5 + 3 = 8) (Nat.le_of_ble_eq_true rfl) rfl rfl ?_
    refine k_if_ne (tgt := 59) dX12_digits_8 (rfl : 8 + 3 = 11) (by decide) (fun b8 => ?_) (fun b8 => ?_)
    · rw [dgL, if_neg (show ¬ ((x.1 13) = 0) from b8)] at hx
      exact hx
    · refine k_iload_n (i := 3) dX12_digits_11 (rfl : 11 + 1 = 12) rfl rfl ?_
      refine k_iload_n (i := 1) dX12_digits_12 (rfl : 12 + 1 = 13) rfl rfl ?_
      refine k_icmp_ge (tgt := 59) dX12_digits_13 (rfl : 13 + 3 = 16) (by decide) (fun b13 => by exact absurd b13 (cl_nle (by omega))) (fun b13 => ?_)
      refine k_aload_n (i := 0) dX12_digits_16 (rfl : 16 + 1 = 17) rfl rfl ?_
      refine k_callVd0 cv_X12_240 ⟨Nat.le_of_ble_eq_true rfl, Nat.le_of_ble_eq_true rfl⟩ (m_X12_sign he) dX12_digits_17 (rfl : 17 + 3 = 20) (Nat.le_of_ble_eq_true rfl) rfl rfl rfl ⟨Nat.le_of_ble_eq_true rfl, Nat.le_of_ble_eq_true rfl⟩ ?_
      refine k_bipush (v := 48) dX12_digits_20 (rfl : 20 + 2 = 22) (by decide) ?_
      refine k_bipush (v := 57) dX12_digits_22 (rfl : 22 + 2 = 24) (by decide) ?_
      refine k_callSd3 cv_X12_70 ⟨Nat.le_of_ble_eq_true rfl, Nat.le_of_ble_eq_true rfl⟩ (m_X12_isIn) dX12_digits_24 (rfl : 24 + 3 = 27) rfl ⟨Nat.le_of_ble_eq_true rfl, Nat.le_of_ble_eq_true rfl⟩ ?_
      refine k_if_eq (tgt := 59) dX12_digits_27 (rfl : 27 + 3 = 30) (by decide) (fun b27 => ?_) (fun b27 => ?_)
      · rw [dgL, if_pos (show (x.1 13) = 0 from b8), if_pos (show (f_X12_isIn (f_X12_sign x ) 48 57) = 0 from b27)] at hx
        exact hx
      · refine k_bipush (v := 10) dX12_digits_30 (rfl : 30 + 2 = 32) (by decide) ?_
        refine k_iload_n (i := 2) dX12_digits_32 (rfl : 32 + 1 = 33) rfl rfl ?_
        refine k_imul dX12_digits_33 (rfl : 33 + 1 = 34) ?_
        refine k_aload_n (i := 0) dX12_digits_34 (rfl : 34 + 1 = 35) rfl rfl ?_
        refine k_callVd0 cv_X12_240 ⟨Nat.le_of_ble_eq_true rfl, Nat.le_of_ble_eq_true rfl⟩ (m_X12_sign he) dX12_digits_35 (rfl : 35 + 3 = 38) (Nat.le_of_ble_eq_true rfl) rfl rfl rfl ⟨Nat.le_of_ble_eq_true rfl, Nat.le_of_ble_eq_true rfl⟩ ?_
        refine k_iadd dX12_digits_38 (rfl : 38 + 1 = 39) ?_
        refine k_bipush (v := 48) dX12_digits_39 (rfl : 39 + 2 = 41) (by decide) ?_
        refine k_isub dX12_digits_41 (rfl : 41 + 1 = 42) ?_
        refine k_istore_n (i := 2) dX12_digits_42 (rfl : 42 + 1 = 43) rfl (Nat.le_of_ble_eq_true rfl) ?_
        refine k_ls (ls2 := [.ref 116, .int a, .int (((10 * n) + (f_X12_sign x )) - 48), .int (nI j)]) rfl ?_
        refine k_aload_n (i := 0) dX12_digits_43 (rfl : 43 + 1 = 44) rfl rfl ?_
        refine k_dup dX12_digits_44 (rfl : 44 + 1 = 45) rfl ?_
        refine k_get 12 21 fg_X12_231 dX12_digits_45 (rfl : 45 + 3 = 48) (Nat.le_of_ble_eq_true rfl) rfl rfl ?_
        refine k_iconst (v := 1) dX12_digits_48 (rfl : 48 + 1 = 49) (by decide) ?_
        refine k_iadd dX12_digits_49 (rfl : 49 + 1 = 50) ?_
        refine k_put 12 21 fp_X12_231 dX12_digits_50 (rfl : 50 + 3 = 53) (Nat.le_of_ble_eq_true rfl) rfl (Nat.le_of_ble_eq_true rfl) rfl rfl ?_
        refine kf_Y10 (v := ((x.1 10) + 1)) rfl ?_
        refine k_iinc (i := 3) (v := (nI (j + 1))) dX12_digits_53 (rfl : 53 + 3 = 56) rfl (Nat.le_of_ble_eq_true rfl) (nI_1 _) ?_
        refine k_ls (ls2 := [.ref 116, .int a, .int (((10 * n) + (f_X12_sign x )) - 48), .int (nI (j + 1))]) rfl ?_
        refine k_goto (tgt := 4) dX12_digits_56 (by decide) ?_
        rw [dgL, if_pos (show (x.1 13) = 0 from b8), if_neg (show ¬ ((f_X12_isIn (f_X12_sign x ) 48 57) = 0) from b27)] at hx
        exact ih (yS x 10 ((x.1 10) + 1)) (j + 1) (((10 * n) + (f_X12_sign x )) - 48) (by omega) (he_up he (sg_dg b27)) hx
theorem dgL_x {a : Int32} {k : Nat} : ∀ {x : kY} {j : Nat} {n : Int32}, kRx x (dgL a k x j n).1 ∧ (dgL a k x j n).1.1 13 = x.1 13 := by
  induction k with
  | zero =>
    intro x j n
    rw [dgL]
    split <;> exact ⟨kRx_r, rfl⟩
  | succ k ih =>
    intro x j n
    rw [dgL]
    split
    · split
      · exact ⟨kRx_r, rfl⟩
      · rename_i h
        have h2 := ih (x := yS x 10 (x.1 10 + 1)) (j := j + 1) (n := 10 * n + f_X12_sign x - 48)
        exact ⟨kRx_t (kRx_10 (sg_dg h)) h2.1, h2.2⟩
    · exact ⟨kRx_r, rfl⟩
def f_X12_digits (x : kY) (a1 : Int32) : Int32 := if (dgL a1 (Int32.toNatClampNeg a1) x 0 0).2.2 = 0 then ((dgL a1 (Int32.toNatClampNeg a1) x 0 0).2.1) else ((dgL a1 (Int32.toNatClampNeg a1) x 0 0).2.1)
def g_X12_digits (x : kY) (a1 : Int32) : kY := if (dgL a1 (Int32.toNatClampNeg a1) x 0 0).2.2 = 0 then (yS (dgL a1 (Int32.toNatClampNeg a1) x 0 0).1 13 (((dgL a1 (Int32.toNatClampNeg a1) x 0 0).1.1 13) ||| 1)) else (yS (dgL a1 (Int32.toNatClampNeg a1) x 0 0).1 13 (((dgL a1 (Int32.toNatClampNeg a1) x 0 0).1.1 13) ||| 0))
set_option maxRecDepth 100000 in
set_option maxHeartbeats 4000000 in
theorem m_X12_digits {x : kY} {a9 : kH} {z9 : kE × kE} {a1 : Int32} (he : kHe x) (hb : kB01 (x.1 13)) : kMet kX12_digits false 0 0 [.ref 116, .int a1] (kTp a9 (kHr x z9)) 130 (kRt (some (.int (f_X12_digits x a1))) (kTp a9 (kHr (g_X12_digits x a1) z9)) 130) := by
  refine kMet.in (by decide) rfl rfl _ rfl ?_
  refine k_iconst (v := 0) dX12_digits_0 (rfl : 0 + 1 = 1) (by decide) ?_
  refine k_istore_n (i := 2) dX12_digits_1 (rfl : 1 + 1 = 2) rfl (Nat.le_of_ble_eq_true rfl) ?_
  refine k_ls (ls2 := [.ref 116, .int a1, .int 0, .retAddr 0]) rfl ?_
  refine k_iconst (v := 0) dX12_digits_2 (rfl : 2 + 1 = 3) (by decide) ?_
  refine k_istore_n (i := 3) dX12_digits_3 (rfl : 3 + 1 = 4) rfl (Nat.le_of_ble_eq_true rfl) ?_
  refine k_ls (ls2 := [.ref 116, .int a1, .int 0, .int 0]) rfl ?_
  refine ldgL (a := a1) (Int32.toNatClampNeg a1) x 0 0 (by omega) he (?_)
  generalize hw4 : (dgL a1 (Int32.toNatClampNeg a1) x 0 0) = w4
  have hb4 : kB01 (w4.1.1 13) := by rw [← hw4, dgL_x.2]; exact hb
  refine k_aload_n (i := 0) dX12_digits_59 (rfl : 59 + 1 = 60) rfl rfl ?_
  refine k_dup dX12_digits_60 (rfl : 60 + 1 = 61) rfl ?_
  refine k_get 12 24 fg_X12_237 dX12_digits_61 (rfl : 61 + 3 = 64) (Nat.le_of_ble_eq_true rfl) rfl rfl ?_
  refine k_iload_n (i := 3) dX12_digits_64 (rfl : 64 + 1 = 65) rfl rfl ?_
  refine k_if_ne (tgt := 72) dX12_digits_65 (rfl : 65 + 3 = 68) (by decide) (fun b65 => ?_) (fun b65 => ?_)
  · refine k_iconst (v := 0) dX12_digits_72 (rfl : 72 + 1 = 73) (by decide) ?_
    refine k_ior dX12_digits_73 (rfl : 73 + 1 = 74) ?_
    refine k_put 12 24 fp_X12_237 dX12_digits_74 (rfl : 74 + 3 = 77) (Nat.le_of_ble_eq_true rfl) rfl (Nat.le_of_ble_eq_true rfl) (nar_or hb4 (by first | exact Or.inl rfl | exact Or.inr rfl)).1 (fits_b (nar_or hb4 (by first | exact Or.inl rfl | exact Or.inr rfl)).2) ?_
    refine kf_Y13 (v := ((w4.1.1 13) ||| 0)) rfl ?_
    refine k_iload_n (i := 2) dX12_digits_77 (rfl : 77 + 1 = 78) rfl rfl ?_
    refine k_iret rfl rfl dX12_digits_78 (Nat.le_of_ble_eq_true rfl) (Nat.le_of_ble_eq_true rfl) ?_
    subst hw4
    exact kRt_of (congrArg (fun z => some (Value.int z)) (Eq.symm (if_neg (show ¬ ((dgL a1 (Int32.toNatClampNeg a1) x 0 0).2.2 = 0) from b65)))) (congrArg (fun z => kTp a9 (kHr z z9)) (Eq.symm (if_neg (show ¬ ((dgL a1 (Int32.toNatClampNeg a1) x 0 0).2.2 = 0) from b65))))
  · refine k_iconst (v := 1) dX12_digits_68 (rfl : 68 + 1 = 69) (by decide) ?_
    refine k_goto (tgt := 73) dX12_digits_69 (by decide) ?_
    refine k_ior dX12_digits_73 (rfl : 73 + 1 = 74) ?_
    refine k_put 12 24 fp_X12_237 dX12_digits_74 (rfl : 74 + 3 = 77) (Nat.le_of_ble_eq_true rfl) rfl (Nat.le_of_ble_eq_true rfl) (nar_or hb4 (by first | exact Or.inl rfl | exact Or.inr rfl)).1 (fits_b (nar_or hb4 (by first | exact Or.inl rfl | exact Or.inr rfl)).2) ?_
    refine kf_Y13 (v := ((w4.1.1 13) ||| 1)) rfl ?_
    refine k_iload_n (i := 2) dX12_digits_77 (rfl : 77 + 1 = 78) rfl rfl ?_
    refine k_iret rfl rfl dX12_digits_78 (Nat.le_of_ble_eq_true rfl) (Nat.le_of_ble_eq_true rfl) ?_
    subst hw4
    exact kRt_of (congrArg (fun z => some (Value.int z)) (Eq.symm (if_pos (show (dgL a1 (Int32.toNatClampNeg a1) x 0 0).2.2 = 0 from b65)))) (congrArg (fun z => kTp a9 (kHr z z9)) (Eq.symm (if_pos (show (dgL a1 (Int32.toNatClampNeg a1) x 0 0).2.2 = 0 from b65))))
theorem dg_x {x : kY} {a : Int32} (hb : kB01 (x.1 13)) : kRx x (g_X12_digits x a) := by
  unfold g_X12_digits
  have h := dgL_x (a := a) (k := Int32.toNatClampNeg a) (x := x) (j := 0) (n := 0)
  split
  · exact kRx_t h.1 (kRx_13 (nar_or (by rw [h.2]; exact hb) (Or.inr rfl)).2)
  · exact kRx_t h.1 (kRx_13 (nar_or (by rw [h.2]; exact hb) (Or.inl rfl)).2)
def f_X12_behind (x : kY) (a1 : Int32) (a2 : Int32) : Int32 := if ((g_X12_expects x a1).1 13) = 0 then (f_X12_digits (g_X12_expects x a1) a2) else 0
def g_X12_behind (x : kY) (a1 : Int32) (a2 : Int32) : kY := if ((g_X12_expects x a1).1 13) = 0 then (g_X12_digits (g_X12_expects x a1) a2) else (g_X12_expects x a1)
set_option maxRecDepth 100000 in
set_option maxHeartbeats 4000000 in
theorem m_X12_behind {x : kY} {a9 : kH} {z9 : kE × kE} {a1 : Int32} {a2 : Int32} (he : kHe x) (hb : kB01 (x.1 13)) (hc : ¬ a1 = (-1)) : kMet kX12_behind false 0 0 [.ref 116, .int a1, .int a2] (kTp a9 (kHr x z9)) 130 (kRt (some (.int (f_X12_behind x a1 a2))) (kTp a9 (kHr (g_X12_behind x a1 a2) z9)) 130) := by
  refine kMet.in (by decide) rfl rfl _ rfl ?_
  refine k_aload_n (i := 0) dX12_behind_0 (rfl : 0 + 1 = 1) rfl rfl ?_
  refine k_iload_n (i := 1) dX12_behind_1 (rfl : 1 + 1 = 2) rfl rfl ?_
  refine k_callVv1 cv_X12_243 ⟨Nat.le_of_ble_eq_true rfl, Nat.le_of_ble_eq_true rfl⟩ (m_X12_expects he) dX12_behind_2 (rfl : 2 + 3 = 5) (Nat.le_of_ble_eq_true rfl) rfl rfl rfl ⟨Nat.le_of_ble_eq_true rfl, Nat.le_of_ble_eq_true rfl⟩ ?_
  refine k_aload_n (i := 0) dX12_behind_5 (rfl : 5 + 1 = 6) rfl rfl ?_
  refine k_get 12 24 fg_X12_237 dX12_behind_6 (rfl : 6 + 3 = 9) (Nat.le_of_ble_eq_true rfl) rfl rfl ?_
  refine k_if_eq (tgt := 16) dX12_behind_9 (rfl : 9 + 3 = 12) (by decide) (fun b9 => ?_) (fun b9 => ?_)
  · refine k_aload_n (i := 0) dX12_behind_16 (rfl : 16 + 1 = 17) rfl rfl ?_
    refine k_iload_n (i := 2) dX12_behind_17 (rfl : 17 + 1 = 18) rfl rfl ?_
    refine k_callVd1 cv_X12_246 ⟨Nat.le_of_ble_eq_true rfl, Nat.le_of_ble_eq_true rfl⟩ (m_X12_digits ((ex_x hc).2.2.1 he) ((ex_x hc).2.2.2 hb)) dX12_behind_18 (rfl : 18 + 3 = 21) (Nat.le_of_ble_eq_true rfl) rfl rfl rfl ⟨Nat.le_of_ble_eq_true rfl, Nat.le_of_ble_eq_true rfl⟩ ?_
    refine k_iret rfl rfl dX12_behind_21 (Nat.le_of_ble_eq_true rfl) (Nat.le_of_ble_eq_true rfl) ?_
    exact kRt_of (congrArg (fun z => some (Value.int z)) (Eq.symm (if_pos (show ((g_X12_expects x a1).1 13) = 0 from b9)))) (congrArg (fun z => kTp a9 (kHr z z9)) (Eq.symm (if_pos (show ((g_X12_expects x a1).1 13) = 0 from b9))))
  · refine k_iconst (v := 0) dX12_behind_12 (rfl : 12 + 1 = 13) (by decide) ?_
    refine k_goto (tgt := 21) dX12_behind_13 (by decide) ?_
    refine k_iret rfl rfl dX12_behind_21 (Nat.le_of_ble_eq_true rfl) (Nat.le_of_ble_eq_true rfl) ?_
    exact kRt_of (congrArg (fun z => some (Value.int z)) (Eq.symm (if_neg (show ¬ (((g_X12_expects x a1).1 13) = 0) from b9)))) (congrArg (fun z => kTp a9 (kHr z z9)) (Eq.symm (if_neg (show ¬ (((g_X12_expects x a1).1 13) = 0) from b9))))
theorem bh_x {x : kY} {a b : Int32} (hb : kB01 (x.1 13)) (hc : ¬ a = (-1)) : kRx x (g_X12_behind x a b) := by
  unfold g_X12_behind
  split
  · exact kRx_t (ex_x hc) (dg_x ((ex_x hc).2.2.2 hb))
  · exact ex_x hc
def wA : List Nat := [0, 5, 10, 16, 22, 27, 32, 38, 42, 47, 52]
def wW : List Int32 := [116, 114, 101, 101, 32, 102, 101, 108, 108, 32, 98, 101, 110, 99, 104, 32, 112, 97, 114, 116, 121, 32, 109, 111, 118, 101, 32, 119, 105, 110, 100, 32, 116, 104, 114, 111, 119, 32, 98, 117, 121, 32, 104, 101, 97, 114, 32, 112, 97, 115, 115, 32]
/-- the words stand -/
def kWo (x : kY) : Prop := (∀ j, j < 11 → x.2 10 j = nI (wA.getD j 0)) ∧ (∀ q, q < 52 → x.2 9 q = wW.getD q 0)
theorem wA_le {j : Nat} (h : j < 10) : wA.getD j 0 < wA.getD (j + 1) 0 ∧ wA.getD (j + 1) 0 ≤ 52 ∧ wA.getD (j + 1) 0 ≤ wA.getD j 0 + 6 := by
  have h2 : ∀ j, j < 10 → wA.getD j 0 < wA.getD (j + 1) 0 ∧ wA.getD (j + 1) 0 ≤ 52 ∧ wA.getD (j + 1) 0 ≤ wA.getD j 0 + 6 := by decide
  exact h2 j h
theorem wo_0 {x : kY} {j : Nat} (h : kWo x) (hj : j < 10) : x.2 10 (Int32.toNatClampNeg (nI j)) = nI (wA.getD j 0) := by
  rw [nI_clamp (by omega)]
  exact h.1 j (by omega)
theorem wo_1 {x : kY} {j : Nat} (h : kWo x) (hj : j < 10) : x.2 10 (Int32.toNatClampNeg (nI j + 1)) = nI (wA.getD (j + 1) 0) := by
  rw [nI_1, nI_clamp (by omega)]
  exact h.1 (j + 1) (by omega)
theorem wo_lt {x : kY} {j n : Nat} (h : kWo x) (hj : j < 10) (hn : n < 60) : (¬ x.2 10 (Int32.toNatClampNeg (nI j + 1)) ≤ x.2 10 (Int32.toNatClampNeg (nI j)) + nI n) ↔ wA.getD j 0 + n < wA.getD (j + 1) 0 := by
  have h2 := wA_le hj
  rw [wo_0 h hj, wo_1 h hj, nI_add]
  constructor
  · intro q
    rcases Nat.lt_or_ge (wA.getD j 0 + n) (wA.getD (j + 1) 0) with z | z
    · exact z
    · exact absurd (nI_le z (by omega)) q
  · intro q
    exact nI_ge q (by omega)
theorem wo_eq {x : kY} {j n : Nat} (h : kWo x) (hj : j < 10) (hn : n < 60) : (x.2 10 (Int32.toNatClampNeg (nI j)) + nI n = x.2 10 (Int32.toNatClampNeg (nI j + 1))) ↔ wA.getD j 0 + n = wA.getD (j + 1) 0 := by
  have h2 := wA_le hj
  rw [wo_0 h hj, wo_1 h hj, nI_add]
  constructor
  · intro q
    have q2 := congrArg Int32.toNatClampNeg q
    rw [nI_clamp (by omega), nI_clamp (by omega)] at q2
    exact q2
  · intro q
    rw [q]
theorem wo_in {x : kY} {j n : Nat} (h : kWo x) (hj : j < 10) (hn : n < 60) (hl : ¬ x.2 10 (Int32.toNatClampNeg (nI j + 1)) ≤ x.2 10 (Int32.toNatClampNeg (nI j)) + nI n) : vp_in (x.2 10 (Int32.toNatClampNeg (nI j)) + nI n) 52 := by
  have h1 := (wo_lt h hj hn).mp hl
  have h2 := wA_le hj
  rw [wo_0 h hj, nI_add]
  exact vp_in_nI (by omega) (by omega)
theorem in_1 {j n : Nat} (h : j + 1 < n) (hn : n < 2 ^ 31) : vp_in (nI j + 1) n := by
  rw [nI_1]
  exact vp_in_nI h hn
def wiL : Nat → kY → Nat → kY
  | 0, x, j => x
  | k + 1, x, j => (wiL k (yR x 8 (upd (x.2 8) (Int32.toNatClampNeg (nI j)) 1)) (j + 1))
set_option maxRecDepth 100000 in
set_option maxHeartbeats 4000000 in
theorem lwiL {a9 : kH} {z9 : kE × kE} {Q : kQ}  : ∀ (k : Nat) (x : kY) (j : Nat), j + k = 10 → (∀ (z1 : Value), kEv kX12_word (kRm kX12_word 0 0) (kFm false 0 0 (Q)) false 21 [.ref 116, z1, .retAddr 0, .retAddr 0, .retAddr 0] [] (kTp a9 (kHr (wiL k x j) z9)) 130 0 0) → kEv kX12_word (kRm kX12_word 0 0) (kFm false 0 0 (Q)) false 2 [.ref 116, .int (nI j), .retAddr 0, .retAddr 0, .retAddr 0] [] (kTp a9 (kHr x z9)) 130 0 0 := by
  intro k
  induction k with
  | zero =>
    intro x j hj hx
    refine k_iload_n (i := 1) dX12_word_2 (rfl : 2 + 1 = 3) rfl rfl ?_
    refine k_bipush (v := 10) dX12_word_3 (rfl : 3 + 2 = 5) (by decide) ?_
    refine k_icmp_ge (tgt := 21) dX12_word_5 (rfl : 5 + 3 = 8) (by decide) (fun b5 => ?_) (fun b5 => by exact absurd (nI_le (a := 10) (b := j) (by omega) (by omega)) b5)
    rw [wiL] at hx
    exact hx _
  | succ k ih =>
    intro x j hj hx
    refine k_iload_n (i := 1) dX12_word_2 (rfl : 2 + 1 = 3) rfl rfl ?_
    refine k_bipush (v := 10) dX12_word_3 (rfl : 3 + 2 = 5) (by decide) ?_
    refine k_icmp_ge (tgt := 21) dX12_word_5 (rfl : 5 + 3 = 8) (by decide) (fun b5 => by exact absurd b5 (nI_ge (a := j) (b := 10) (by omega) (by decide))) (fun b5 => ?_)
    refine k_aload_n (i := 0) dX12_word_8 (rfl : 8 + 1 = 9) rfl rfl ?_
    refine k_get 12 17 fg_X12_41 dX12_word_9 (rfl : 9 + 3 = 12) (Nat.le_of_ble_eq_true rfl) rfl rfl ?_
    refine k_iload_n (i := 1) dX12_word_12 (rfl : 12 + 1 = 13) rfl rfl ?_
    refine k_iconst (v := 1) dX12_word_13 (rfl : 13 + 1 = 14) (by decide) ?_
    refine k_iast dX12_word_14 (rfl : 14 + 1 = 15) (Nat.le_of_ble_eq_true rfl) rfl (vp_in_nI (by omega) (by omega)) ?_
    refine kf_Z8 (f := (upd (x.2 8) (Int32.toNatClampNeg (nI j)) 1)) rfl ?_
    refine k_iinc (i := 1) (v := (nI (j + 1))) dX12_word_15 (rfl : 15 + 3 = 18) rfl (Nat.le_of_ble_eq_true rfl) (nI_1 _) ?_
    refine k_ls (ls2 := [.ref 116, .int (nI (j + 1)), .retAddr 0, .retAddr 0, .retAddr 0]) rfl ?_
    refine k_goto (tgt := 2) dX12_word_18 (by decide) ?_
    rw [wiL] at hx
    exact ih (yR x 8 (upd (x.2 8) (Int32.toNatClampNeg (nI j)) 1)) (j + 1) (by omega) hx
def waL (n : Nat) : Nat → kY → Nat → Int32 → kY × Int32
  | 0, x, j, m => (x, m)
  | k + 1, x, j, m => if ((x.2 10) (Int32.toNatClampNeg ((nI j) + 1))) ≤ (((x.2 10) (Int32.toNatClampNeg (nI j))) + (nI n)) then (if ((upd (x.2 8) (Int32.toNatClampNeg (nI j)) (((x.2 8) (Int32.toNatClampNeg (nI j))) &&& 0)) (Int32.toNatClampNeg (nI j))) = 1 then (waL n k (yR x 8 (upd (x.2 8) (Int32.toNatClampNeg (nI j)) (((x.2 8) (Int32.toNatClampNeg (nI j))) &&& 0))) (j + 1) (m ||| 1)) else (waL n k (yR x 8 (upd (x.2 8) (Int32.toNatClampNeg (nI j)) (((x.2 8) (Int32.toNatClampNeg (nI j))) &&& 0))) (j + 1) (m ||| 0))) else (if ((x.2 9) (Int32.toNatClampNeg (((x.2 10) (Int32.toNatClampNeg (nI j))) + (nI n)))) = (f_X12_sign x ) then (if ((upd (x.2 8) (Int32.toNatClampNeg (nI j)) (((x.2 8) (Int32.toNatClampNeg (nI j))) &&& 1)) (Int32.toNatClampNeg (nI j))) = 1 then (waL n k (yR x 8 (upd (x.2 8) (Int32.toNatClampNeg (nI j)) (((x.2 8) (Int32.toNatClampNeg (nI j))) &&& 1))) (j + 1) (m ||| 1)) else (waL n k (yR x 8 (upd (x.2 8) (Int32.toNatClampNeg (nI j)) (((x.2 8) (Int32.toNatClampNeg (nI j))) &&& 1))) (j + 1) (m ||| 0))) else (if ((upd (x.2 8) (Int32.toNatClampNeg (nI j)) (((x.2 8) (Int32.toNatClampNeg (nI j))) &&& 0)) (Int32.toNatClampNeg (nI j))) = 1 then (waL n k (yR x 8 (upd (x.2 8) (Int32.toNatClampNeg (nI j)) (((x.2 8) (Int32.toNatClampNeg (nI j))) &&& 0))) (j + 1) (m ||| 1)) else (waL n k (yR x 8 (upd (x.2 8) (Int32.toNatClampNeg (nI j)) (((x.2 8) (Int32.toNatClampNeg (nI j))) &&& 0))) (j + 1) (m ||| 0))))
set_option maxRecDepth 100000 in
set_option maxHeartbeats 4000000 in
theorem lwaL {a9 : kH} {z9 : kE × kE} {Q : kQ} {n : Nat} {i : Int32}  (hn : n < 60) : ∀ (k : Nat) (x : kY) (j : Nat) (m : Int32), j + k = 10 → kWo x → kHe x → (∀ (z4 : Value), kEv kX12_word (kRm kX12_word 0 0) (kFm false 0 0 (Q)) false 130 [.ref 116, .int (nI n), .int i, .int (waL n k x j m).2, z4] [] (kTp a9 (kHr (waL n k x j m).1 z9)) 130 0 0) → kEv kX12_word (kRm kX12_word 0 0) (kFm false 0 0 (Q)) false 41 [.ref 116, .int (nI n), .int i, .int m, .int (nI j)] [] (kTp a9 (kHr x z9)) 130 0 0 := by
  intro k
  induction k with
  | zero =>
    intro x j m hj hwo he hx
    refine k_iload (i := 4) dX12_word_41 (rfl : 41 + 2 = 43) rfl ?_
    refine k_bipush (v := 10) dX12_word_43 (rfl : 43 + 2 = 45) (by decide) ?_
    refine k_icmp_ge (tgt := 130) dX12_word_45 (rfl : 45 + 3 = 48) (by decide) (fun b45 => ?_) (fun b45 => by exact absurd (nI_le (a := 10) (b := j) (by omega) (by omega)) b45)
    rw [waL] at hx
    exact hx _
  | succ k ih =>
    intro x j m hj hwo he hx
    refine k_iload (i := 4) dX12_word_41 (rfl : 41 + 2 = 43) rfl ?_
    refine k_bipush (v := 10) dX12_word_43 (rfl : 43 + 2 = 45) (by decide) ?_
    refine k_icmp_ge (tgt := 130) dX12_word_45 (rfl : 45 + 3 = 48) (by decide) (fun b45 => by exact absurd b45 (nI_ge (a := j) (b := 10) (by omega) (by decide))) (fun b45 => ?_)
    refine k_aload_n (i := 0) dX12_word_48 (rfl : 48 + 1 = 49) rfl rfl ?_
    refine k_get 12 17 fg_X12_41 dX12_word_49 (rfl : 49 + 3 = 52) (Nat.le_of_ble_eq_true rfl) rfl rfl ?_
    refine k_iload (i := 4) dX12_word_52 (rfl : 52 + 2 = 54) rfl ?_
    refine k_dup2_11 dX12_word_54 (rfl : 54 + 1 = 55) rfl rfl ?_
    refine k_iald dX12_word_55 (rfl : 55 + 1 = 56) (Nat.le_of_ble_eq_true rfl) rfl (vp_in_nI (by omega) (by omega)) ?_
    refine k_aload_n (i := 0) dX12_word_56 (rfl : 56 + 1 = 57) rfl rfl ?_
    refine k_get 12 19 fg_X12_47 dX12_word_57 (rfl : 57 + 3 = 60) (Nat.le_of_ble_eq_true rfl) rfl rfl ?_
    refine k_iload (i := 4) dX12_word_60 (rfl : 60 + 2 = 62) rfl ?_
    refine k_iald dX12_word_62 (rfl : 62 + 1 = 63) (Nat.le_of_ble_eq_true rfl) rfl (vp_in_nI (by omega) (by omega)) ?_
    refine k_iload_n (i := 1) dX12_word_63 (rfl : 63 + 1 = 64) rfl rfl ?_
    refine k_iadd dX12_word_64 (rfl : 64 + 1 = 65) ?_
    refine k_aload_n (i := 0) dX12_word_65 (rfl : 65 + 1 = 66) rfl rfl ?_
    refine k_get 12 19 fg_X12_47 dX12_word_66 (rfl : 66 + 3 = 69) (Nat.le_of_ble_eq_true rfl) rfl rfl ?_
    refine k_iload (i := 4) dX12_word_69 (rfl : 69 + 2 = 71) rfl ?_
    refine k_iconst (v := 1) dX12_word_71 (rfl : 71 + 1 = 72) (by decide) ?_
    refine k_iadd dX12_word_72 (rfl : 72 + 1 = 73) ?_
    refine k_iald dX12_word_73 (rfl : 73 + 1 = 74) (Nat.le_of_ble_eq_true rfl) rfl (in_1 (by omega) (by decide)) ?_
    refine k_icmp_ge (tgt := 102) dX12_word_74 (rfl : 74 + 3 = 77) (by decide) (fun b74 => ?_) (fun b74 => ?_)
    · refine k_iconst (v := 0) dX12_word_102 (rfl : 102 + 1 = 103) (by decide) ?_
      refine k_iand dX12_word_103 (rfl : 103 + 1 = 104) ?_
      refine k_iast dX12_word_104 (rfl : 104 + 1 = 105) (Nat.le_of_ble_eq_true rfl) rfl (vp_in_nI (by omega) (by omega)) ?_
      refine kf_Z8 (f := (upd (x.2 8) (Int32.toNatClampNeg (nI j)) (((x.2 8) (Int32.toNatClampNeg (nI j))) &&& 0))) rfl ?_
      refine k_iload_n (i := 3) dX12_word_105 (rfl : 105 + 1 = 106) rfl rfl ?_
      refine k_aload_n (i := 0) dX12_word_106 (rfl : 106 + 1 = 107) rfl rfl ?_
      refine k_get 12 17 fg_X12_41 dX12_word_107 (rfl : 107 + 3 = 110) (Nat.le_of_ble_eq_true rfl) rfl rfl ?_
      refine k_iload (i := 4) dX12_word_110 (rfl : 110 + 2 = 112) rfl ?_
      refine k_iald dX12_word_112 (rfl : 112 + 1 = 113) (Nat.le_of_ble_eq_true rfl) rfl (vp_in_nI (by omega) (by omega)) ?_
      refine k_iconst (v := 1) dX12_word_113 (rfl : 113 + 1 = 114) (by decide) ?_
      refine k_icmp_ne (tgt := 121) dX12_word_114 (rfl : 114 + 3 = 117) (by decide) (fun b114 => ?_) (fun b114 => ?_)
      · refine k_iconst (v := 0) dX12_word_121 (rfl : 121 + 1 = 122) (by decide) ?_
        refine k_ior dX12_word_122 (rfl : 122 + 1 = 123) ?_
        refine k_istore_n (i := 3) dX12_word_123 (rfl : 123 + 1 = 124) rfl (Nat.le_of_ble_eq_true rfl) ?_
        refine k_ls (ls2 := [.ref 116, .int (nI n), .int i, .int (m ||| 0), .int (nI j)]) rfl ?_
        refine k_iinc (i := 4) (v := (nI (j + 1))) dX12_word_124 (rfl : 124 + 3 = 127) rfl (Nat.le_of_ble_eq_true rfl) (nI_1 _) ?_
        refine k_ls (ls2 := [.ref 116, .int (nI n), .int i, .int (m ||| 0), .int (nI (j + 1))]) rfl ?_
        refine k_goto (tgt := 41) dX12_word_127 (by decide) ?_
        rw [waL, if_pos (show ((x.2 10) (Int32.toNatClampNeg ((nI j) + 1))) ≤ (((x.2 10) (Int32.toNatClampNeg (nI j))) + (nI n)) from b74), if_neg (show ¬ (((upd (x.2 8) (Int32.toNatClampNeg (nI j)) (((x.2 8) (Int32.toNatClampNeg (nI j))) &&& 0)) (Int32.toNatClampNeg (nI j))) = 1) from b114)] at hx
        exact ih (yR x 8 (upd (x.2 8) (Int32.toNatClampNeg (nI j)) (((x.2 8) (Int32.toNatClampNeg (nI j))) &&& 0))) (j + 1) (m ||| 0) (by omega) hwo he hx
      · refine k_iconst (v := 1) dX12_word_117 (rfl : 117 + 1 = 118) (by decide) ?_
        refine k_goto (tgt := 122) dX12_word_118 (by decide) ?_
        refine k_ior dX12_word_122 (rfl : 122 + 1 = 123) ?_
        refine k_istore_n (i := 3) dX12_word_123 (rfl : 123 + 1 = 124) rfl (Nat.le_of_ble_eq_true rfl) ?_
        refine k_ls (ls2 := [.ref 116, .int (nI n), .int i, .int (m ||| 1), .int (nI j)]) rfl ?_
        refine k_iinc (i := 4) (v := (nI (j + 1))) dX12_word_124 (rfl : 124 + 3 = 127) rfl (Nat.le_of_ble_eq_true rfl) (nI_1 _) ?_
        refine k_ls (ls2 := [.ref 116, .int (nI n), .int i, .int (m ||| 1), .int (nI (j + 1))]) rfl ?_
        refine k_goto (tgt := 41) dX12_word_127 (by decide) ?_
        rw [waL, if_pos (show ((x.2 10) (Int32.toNatClampNeg ((nI j) + 1))) ≤ (((x.2 10) (Int32.toNatClampNeg (nI j))) + (nI n)) from b74), if_pos (show ((upd (x.2 8) (Int32.toNatClampNeg (nI j)) (((x.2 8) (Int32.toNatClampNeg (nI j))) &&& 0)) (Int32.toNatClampNeg (nI j))) = 1 from b114)] at hx
        exact ih (yR x 8 (upd (x.2 8) (Int32.toNatClampNeg (nI j)) (((x.2 8) (Int32.toNatClampNeg (nI j))) &&& 0))) (j + 1) (m ||| 1) (by omega) hwo he hx
    · refine k_aload_n (i := 0) dX12_word_77 (rfl : 77 + 1 = 78) rfl rfl ?_
      refine k_get 12 18 fg_X12_44 dX12_word_78 (rfl : 78 + 3 = 81) (Nat.le_of_ble_eq_true rfl) rfl rfl ?_
      refine k_aload_n (i := 0) dX12_word_81 (rfl : 81 + 1 = 82) rfl rfl ?_
      refine k_get 12 19 fg_X12_47 dX12_word_82 (rfl : 82 + 3 = 85) (Nat.le_of_ble_eq_true rfl) rfl rfl ?_
      refine k_iload (i := 4) dX12_word_85 (rfl : 85 + 2 = 87) rfl ?_
      refine k_iald dX12_word_87 (rfl : 87 + 1 = 88) (Nat.le_of_ble_eq_true rfl) rfl (vp_in_nI (by omega) (by omega)) ?_
      refine k_iload_n (i := 1) dX12_word_88 (rfl : 88 + 1 = 89) rfl rfl ?_
      refine k_iadd dX12_word_89 (rfl : 89 + 1 = 90) ?_
      refine k_iald dX12_word_90 (rfl : 90 + 1 = 91) (Nat.le_of_ble_eq_true rfl) rfl (wo_in hwo (by omega) hn b74) ?_
      refine k_aload_n (i := 0) dX12_word_91 (rfl : 91 + 1 = 92) rfl rfl ?_
      refine k_callVd0 cv_X12_240 ⟨Nat.le_of_ble_eq_true rfl, Nat.le_of_ble_eq_true rfl⟩ (m_X12_sign he) dX12_word_92 (rfl : 92 + 3 = 95) (Nat.le_of_ble_eq_true rfl) rfl rfl rfl ⟨Nat.le_of_ble_eq_true rfl, Nat.le_of_ble_eq_true rfl⟩ ?_
      refine k_icmp_ne (tgt := 102) dX12_word_95 (rfl : 95 + 3 = 98) (by decide) (fun b95 => ?_) (fun b95 => ?_)
      · refine k_iconst (v := 0) dX12_word_102 (rfl : 102 + 1 = 103) (by decide) ?_
        refine k_iand dX12_word_103 (rfl : 103 + 1 = 104) ?_
        refine k_iast dX12_word_104 (rfl : 104 + 1 = 105) (Nat.le_of_ble_eq_true rfl) rfl (vp_in_nI (by omega) (by omega)) ?_
        refine kf_Z8 (f := (upd (x.2 8) (Int32.toNatClampNeg (nI j)) (((x.2 8) (Int32.toNatClampNeg (nI j))) &&& 0))) rfl ?_
        refine k_iload_n (i := 3) dX12_word_105 (rfl : 105 + 1 = 106) rfl rfl ?_
        refine k_aload_n (i := 0) dX12_word_106 (rfl : 106 + 1 = 107) rfl rfl ?_
        refine k_get 12 17 fg_X12_41 dX12_word_107 (rfl : 107 + 3 = 110) (Nat.le_of_ble_eq_true rfl) rfl rfl ?_
        refine k_iload (i := 4) dX12_word_110 (rfl : 110 + 2 = 112) rfl ?_
        refine k_iald dX12_word_112 (rfl : 112 + 1 = 113) (Nat.le_of_ble_eq_true rfl) rfl (vp_in_nI (by omega) (by omega)) ?_
        refine k_iconst (v := 1) dX12_word_113 (rfl : 113 + 1 = 114) (by decide) ?_
        refine k_icmp_ne (tgt := 121) dX12_word_114 (rfl : 114 + 3 = 117) (by decide) (fun b114 => ?_) (fun b114 => ?_)
        · refine k_iconst (v := 0) dX12_word_121 (rfl : 121 + 1 = 122) (by decide) ?_
          refine k_ior dX12_word_122 (rfl : 122 + 1 = 123) ?_
          refine k_istore_n (i := 3) dX12_word_123 (rfl : 123 + 1 = 124) rfl (Nat.le_of_ble_eq_true rfl) ?_
          refine k_ls (ls2 := [.ref 116, .int (nI n), .int i, .int (m ||| 0), .int (nI j)]) rfl ?_
          refine k_iinc (i := 4) (v := (nI (j + 1))) dX12_word_124 (rfl : 124 + 3 = 127) rfl (Nat.le_of_ble_eq_true rfl) (nI_1 _) ?_
          refine k_ls (ls2 := [.ref 116, .int (nI n), .int i, .int (m ||| 0), .int (nI (j + 1))]) rfl ?_
          refine k_goto (tgt := 41) dX12_word_127 (by decide) ?_
          rw [waL, if_neg (show ¬ (((x.2 10) (Int32.toNatClampNeg ((nI j) + 1))) ≤ (((x.2 10) (Int32.toNatClampNeg (nI j))) + (nI n))) from b74), if_neg (show ¬ (((x.2 9) (Int32.toNatClampNeg (((x.2 10) (Int32.toNatClampNeg (nI j))) + (nI n)))) = (f_X12_sign x )) from b95), if_neg (show ¬ (((upd (x.2 8) (Int32.toNatClampNeg (nI j)) (((x.2 8) (Int32.toNatClampNeg (nI j))) &&& 0)) (Int32.toNatClampNeg (nI j))) = 1) from b114)] at hx
          exact ih (yR x 8 (upd (x.2 8) (Int32.toNatClampNeg (nI j)) (((x.2 8) (Int32.toNatClampNeg (nI j))) &&& 0))) (j + 1) (m ||| 0) (by omega) hwo he hx
        · refine k_iconst (v := 1) dX12_word_117 (rfl : 117 + 1 = 118) (by decide) ?_
          refine k_goto (tgt := 122) dX12_word_118 (by decide) ?_
          refine k_ior dX12_word_122 (rfl : 122 + 1 = 123) ?_
          refine k_istore_n (i := 3) dX12_word_123 (rfl : 123 + 1 = 124) rfl (Nat.le_of_ble_eq_true rfl) ?_
          refine k_ls (ls2 := [.ref 116, .int (nI n), .int i, .int (m ||| 1), .int (nI j)]) rfl ?_
          refine k_iinc (i := 4) (v := (nI (j + 1))) dX12_word_124 (rfl : 124 + 3 = 127) rfl (Nat.le_of_ble_eq_true rfl) (nI_1 _) ?_
          refine k_ls (ls2 := [.ref 116, .int (nI n), .int i, .int (m ||| 1), .int (nI (j + 1))]) rfl ?_
          refine k_goto (tgt := 41) dX12_word_127 (by decide) ?_
          rw [waL, if_neg (show ¬ (((x.2 10) (Int32.toNatClampNeg ((nI j) + 1))) ≤ (((x.2 10) (Int32.toNatClampNeg (nI j))) + (nI n))) from b74), if_neg (show ¬ (((x.2 9) (Int32.toNatClampNeg (((x.2 10) (Int32.toNatClampNeg (nI j))) + (nI n)))) = (f_X12_sign x )) from b95), if_pos (show ((upd (x.2 8) (Int32.toNatClampNeg (nI j)) (((x.2 8) (Int32.toNatClampNeg (nI j))) &&& 0)) (Int32.toNatClampNeg (nI j))) = 1 from b114)] at hx
          exact ih (yR x 8 (upd (x.2 8) (Int32.toNatClampNeg (nI j)) (((x.2 8) (Int32.toNatClampNeg (nI j))) &&& 0))) (j + 1) (m ||| 1) (by omega) hwo he hx
      · refine k_iconst (v := 1) dX12_word_98 (rfl : 98 + 1 = 99) (by decide) ?_
        refine k_goto (tgt := 103) dX12_word_99 (by decide) ?_
        refine k_iand dX12_word_103 (rfl : 103 + 1 = 104) ?_
        refine k_iast dX12_word_104 (rfl : 104 + 1 = 105) (Nat.le_of_ble_eq_true rfl) rfl (vp_in_nI (by omega) (by omega)) ?_
        refine kf_Z8 (f := (upd (x.2 8) (Int32.toNatClampNeg (nI j)) (((x.2 8) (Int32.toNatClampNeg (nI j))) &&& 1))) rfl ?_
        refine k_iload_n (i := 3) dX12_word_105 (rfl : 105 + 1 = 106) rfl rfl ?_
        refine k_aload_n (i := 0) dX12_word_106 (rfl : 106 + 1 = 107) rfl rfl ?_
        refine k_get 12 17 fg_X12_41 dX12_word_107 (rfl : 107 + 3 = 110) (Nat.le_of_ble_eq_true rfl) rfl rfl ?_
        refine k_iload (i := 4) dX12_word_110 (rfl : 110 + 2 = 112) rfl ?_
        refine k_iald dX12_word_112 (rfl : 112 + 1 = 113) (Nat.le_of_ble_eq_true rfl) rfl (vp_in_nI (by omega) (by omega)) ?_
        refine k_iconst (v := 1) dX12_word_113 (rfl : 113 + 1 = 114) (by decide) ?_
        refine k_icmp_ne (tgt := 121) dX12_word_114 (rfl : 114 + 3 = 117) (by decide) (fun b114 => ?_) (fun b114 => ?_)
        · refine k_iconst (v := 0) dX12_word_121 (rfl : 121 + 1 = 122) (by decide) ?_
          refine k_ior dX12_word_122 (rfl : 122 + 1 = 123) ?_
          refine k_istore_n (i := 3) dX12_word_123 (rfl : 123 + 1 = 124) rfl (Nat.le_of_ble_eq_true rfl) ?_
          refine k_ls (ls2 := [.ref 116, .int (nI n), .int i, .int (m ||| 0), .int (nI j)]) rfl ?_
          refine k_iinc (i := 4) (v := (nI (j + 1))) dX12_word_124 (rfl : 124 + 3 = 127) rfl (Nat.le_of_ble_eq_true rfl) (nI_1 _) ?_
          refine k_ls (ls2 := [.ref 116, .int (nI n), .int i, .int (m ||| 0), .int (nI (j + 1))]) rfl ?_
          refine k_goto (tgt := 41) dX12_word_127 (by decide) ?_
          rw [waL, if_neg (show ¬ (((x.2 10) (Int32.toNatClampNeg ((nI j) + 1))) ≤ (((x.2 10) (Int32.toNatClampNeg (nI j))) + (nI n))) from b74), if_pos (show ((x.2 9) (Int32.toNatClampNeg (((x.2 10) (Int32.toNatClampNeg (nI j))) + (nI n)))) = (f_X12_sign x ) from b95), if_neg (show ¬ (((upd (x.2 8) (Int32.toNatClampNeg (nI j)) (((x.2 8) (Int32.toNatClampNeg (nI j))) &&& 1)) (Int32.toNatClampNeg (nI j))) = 1) from b114)] at hx
          exact ih (yR x 8 (upd (x.2 8) (Int32.toNatClampNeg (nI j)) (((x.2 8) (Int32.toNatClampNeg (nI j))) &&& 1))) (j + 1) (m ||| 0) (by omega) hwo he hx
        · refine k_iconst (v := 1) dX12_word_117 (rfl : 117 + 1 = 118) (by decide) ?_
          refine k_goto (tgt := 122) dX12_word_118 (by decide) ?_
          refine k_ior dX12_word_122 (rfl : 122 + 1 = 123) ?_
          refine k_istore_n (i := 3) dX12_word_123 (rfl : 123 + 1 = 124) rfl (Nat.le_of_ble_eq_true rfl) ?_
          refine k_ls (ls2 := [.ref 116, .int (nI n), .int i, .int (m ||| 1), .int (nI j)]) rfl ?_
          refine k_iinc (i := 4) (v := (nI (j + 1))) dX12_word_124 (rfl : 124 + 3 = 127) rfl (Nat.le_of_ble_eq_true rfl) (nI_1 _) ?_
          refine k_ls (ls2 := [.ref 116, .int (nI n), .int i, .int (m ||| 1), .int (nI (j + 1))]) rfl ?_
          refine k_goto (tgt := 41) dX12_word_127 (by decide) ?_
          rw [waL, if_neg (show ¬ (((x.2 10) (Int32.toNatClampNeg ((nI j) + 1))) ≤ (((x.2 10) (Int32.toNatClampNeg (nI j))) + (nI n))) from b74), if_pos (show ((x.2 9) (Int32.toNatClampNeg (((x.2 10) (Int32.toNatClampNeg (nI j))) + (nI n)))) = (f_X12_sign x ) from b95), if_pos (show ((upd (x.2 8) (Int32.toNatClampNeg (nI j)) (((x.2 8) (Int32.toNatClampNeg (nI j))) &&& 1)) (Int32.toNatClampNeg (nI j))) = 1 from b114)] at hx
          exact ih (yR x 8 (upd (x.2 8) (Int32.toNatClampNeg (nI j)) (((x.2 8) (Int32.toNatClampNeg (nI j))) &&& 1))) (j + 1) (m ||| 1) (by omega) hwo he hx
def wbL (x : kY) (n : Nat) : Nat → Nat → Int32 → Int32
  | 0, j, i => i
  | k + 1, j, i => if ((x.2 8) (Int32.toNatClampNeg (nI j))) = 1 then (if (((x.2 10) (Int32.toNatClampNeg (nI j))) + (nI n)) = ((x.2 10) (Int32.toNatClampNeg ((nI j) + 1))) then (wbL x n k (j + 1) (nI j)) else (wbL x n k (j + 1) i)) else (wbL x n k (j + 1) i)
set_option maxRecDepth 100000 in
set_option maxHeartbeats 4000000 in
theorem lwbL {x : kY} {a9 : kH} {z9 : kE × kE} {Q : kQ} {n : Nat} {m : Int32}  : ∀ (k : Nat) (j : Nat) (i : Int32), j + k = 10 → (∀ (z4 : Value), kEv kX12_word (kRm kX12_word 0 0) (kFm false 0 0 (Q)) false 219 [.ref 116, .int (nI n), .int (wbL x n k j i), .int m, z4] [] (kTp a9 (kHr x z9)) 130 0 0) → kEv kX12_word (kRm kX12_word 0 0) (kFm false 0 0 (Q)) false 167 [.ref 116, .int (nI n), .int i, .int m, .int (nI j)] [] (kTp a9 (kHr x z9)) 130 0 0 := by
  intro k
  induction k with
  | zero =>
    intro j i hj hx
    refine k_iload (i := 4) dX12_word_167 (rfl : 167 + 2 = 169) rfl ?_
    refine k_bipush (v := 10) dX12_word_169 (rfl : 169 + 2 = 171) (by decide) ?_
    refine k_icmp_ge (tgt := 219) dX12_word_171 (rfl : 171 + 3 = 174) (by decide) (fun b171 => ?_) (fun b171 => by exact absurd (nI_le (a := 10) (b := j) (by omega) (by omega)) b171)
    rw [wbL] at hx
    exact hx _
  | succ k ih =>
    intro j i hj hx
    refine k_iload (i := 4) dX12_word_167 (rfl : 167 + 2 = 169) rfl ?_
    refine k_bipush (v := 10) dX12_word_169 (rfl : 169 + 2 = 171) (by decide) ?_
    refine k_icmp_ge (tgt := 219) dX12_word_171 (rfl : 171 + 3 = 174) (by decide) (fun b171 => by exact absurd b171 (nI_ge (a := j) (b := 10) (by omega) (by decide))) (fun b171 => ?_)
    refine k_aload_n (i := 0) dX12_word_174 (rfl : 174 + 1 = 175) rfl rfl ?_
    refine k_get 12 17 fg_X12_41 dX12_word_175 (rfl : 175 + 3 = 178) (Nat.le_of_ble_eq_true rfl) rfl rfl ?_
    refine k_iload (i := 4) dX12_word_178 (rfl : 178 + 2 = 180) rfl ?_
    refine k_iald dX12_word_180 (rfl : 180 + 1 = 181) (Nat.le_of_ble_eq_true rfl) rfl (vp_in_nI (by omega) (by omega)) ?_
    refine k_iconst (v := 1) dX12_word_181 (rfl : 181 + 1 = 182) (by decide) ?_
    refine k_icmp_ne (tgt := 211) dX12_word_182 (rfl : 182 + 3 = 185) (by decide) (fun b182 => ?_) (fun b182 => ?_)
    · refine k_iload_n (i := 2) dX12_word_211 (rfl : 211 + 1 = 212) rfl rfl ?_
      refine k_istore_n (i := 2) dX12_word_212 (rfl : 212 + 1 = 213) rfl (Nat.le_of_ble_eq_true rfl) ?_
      refine k_ls (ls2 := [.ref 116, .int (nI n), .int i, .int m, .int (nI j)]) rfl ?_
      refine k_iinc (i := 4) (v := (nI (j + 1))) dX12_word_213 (rfl : 213 + 3 = 216) rfl (Nat.le_of_ble_eq_true rfl) (nI_1 _) ?_
      refine k_ls (ls2 := [.ref 116, .int (nI n), .int i, .int m, .int (nI (j + 1))]) rfl ?_
      refine k_goto (tgt := 167) dX12_word_216 (by decide) ?_
      rw [wbL, if_neg (show ¬ (((x.2 8) (Int32.toNatClampNeg (nI j))) = 1) from b182)] at hx
      exact ih (j + 1) i (by omega) hx
    · refine k_aload_n (i := 0) dX12_word_185 (rfl : 185 + 1 = 186) rfl rfl ?_
      refine k_get 12 19 fg_X12_47 dX12_word_186 (rfl : 186 + 3 = 189) (Nat.le_of_ble_eq_true rfl) rfl rfl ?_
      refine k_iload (i := 4) dX12_word_189 (rfl : 189 + 2 = 191) rfl ?_
      refine k_iald dX12_word_191 (rfl : 191 + 1 = 192) (Nat.le_of_ble_eq_true rfl) rfl (vp_in_nI (by omega) (by omega)) ?_
      refine k_iload_n (i := 1) dX12_word_192 (rfl : 192 + 1 = 193) rfl rfl ?_
      refine k_iadd dX12_word_193 (rfl : 193 + 1 = 194) ?_
      refine k_aload_n (i := 0) dX12_word_194 (rfl : 194 + 1 = 195) rfl rfl ?_
      refine k_get 12 19 fg_X12_47 dX12_word_195 (rfl : 195 + 3 = 198) (Nat.le_of_ble_eq_true rfl) rfl rfl ?_
      refine k_iload (i := 4) dX12_word_198 (rfl : 198 + 2 = 200) rfl ?_
      refine k_iconst (v := 1) dX12_word_200 (rfl : 200 + 1 = 201) (by decide) ?_
      refine k_iadd dX12_word_201 (rfl : 201 + 1 = 202) ?_
      refine k_iald dX12_word_202 (rfl : 202 + 1 = 203) (Nat.le_of_ble_eq_true rfl) rfl (in_1 (by omega) (by decide)) ?_
      refine k_icmp_ne (tgt := 211) dX12_word_203 (rfl : 203 + 3 = 206) (by decide) (fun b203 => ?_) (fun b203 => ?_)
      · refine k_iload_n (i := 2) dX12_word_211 (rfl : 211 + 1 = 212) rfl rfl ?_
        refine k_istore_n (i := 2) dX12_word_212 (rfl : 212 + 1 = 213) rfl (Nat.le_of_ble_eq_true rfl) ?_
        refine k_ls (ls2 := [.ref 116, .int (nI n), .int i, .int m, .int (nI j)]) rfl ?_
        refine k_iinc (i := 4) (v := (nI (j + 1))) dX12_word_213 (rfl : 213 + 3 = 216) rfl (Nat.le_of_ble_eq_true rfl) (nI_1 _) ?_
        refine k_ls (ls2 := [.ref 116, .int (nI n), .int i, .int m, .int (nI (j + 1))]) rfl ?_
        refine k_goto (tgt := 167) dX12_word_216 (by decide) ?_
        rw [wbL, if_pos (show ((x.2 8) (Int32.toNatClampNeg (nI j))) = 1 from b182), if_neg (show ¬ ((((x.2 10) (Int32.toNatClampNeg (nI j))) + (nI n)) = ((x.2 10) (Int32.toNatClampNeg ((nI j) + 1)))) from b203)] at hx
        exact ih (j + 1) i (by omega) hx
      · refine k_iload (i := 4) dX12_word_206 (rfl : 206 + 2 = 208) rfl ?_
        refine k_goto (tgt := 212) dX12_word_208 (by decide) ?_
        refine k_istore_n (i := 2) dX12_word_212 (rfl : 212 + 1 = 213) rfl (Nat.le_of_ble_eq_true rfl) ?_
        refine k_ls (ls2 := [.ref 116, .int (nI n), .int (nI j), .int m, .int (nI j)]) rfl ?_
        refine k_iinc (i := 4) (v := (nI (j + 1))) dX12_word_213 (rfl : 213 + 3 = 216) rfl (Nat.le_of_ble_eq_true rfl) (nI_1 _) ?_
        refine k_ls (ls2 := [.ref 116, .int (nI n), .int (nI j), .int m, .int (nI (j + 1))]) rfl ?_
        refine k_goto (tgt := 167) dX12_word_216 (by decide) ?_
        rw [wbL, if_pos (show ((x.2 8) (Int32.toNatClampNeg (nI j))) = 1 from b182), if_pos (show (((x.2 10) (Int32.toNatClampNeg (nI j))) + (nI n)) = ((x.2 10) (Int32.toNatClampNeg ((nI j) + 1))) from b203)] at hx
        exact ih (j + 1) (nI j) (by omega) hx
theorem waL_x {n : Nat} {k : Nat} : ∀ {x : kY} {j : Nat} {m : Int32}, (waL n k x j m).1.1 = x.1 ∧ ∀ r, r ≠ 8 → (waL n k x j m).1.2 r = x.2 r := by
  induction k with
  | zero => intro x j m; exact ⟨rfl, fun _ _ => rfl⟩
  | succ k ih =>
    intro x j m
    have go : ∀ (f : Nat → Int32) (q : Int32), (waL n k (yR x 8 f) (j + 1) q).1.1 = x.1 ∧ ∀ r, r ≠ 8 → (waL n k (yR x 8 f) (j + 1) q).1.2 r = x.2 r := by
      intro f q
      have h := ih (x := yR x 8 f) (j := j + 1) (m := q)
      exact ⟨h.1, fun r hr => (h.2 r hr).trans (if_neg hr)⟩
    rw [waL]
    repeat' split
    all_goals exact go _ _
theorem wo_r {x y : kY} (h : kWo x) (e : ∀ r, r ≠ 8 → y.2 r = x.2 r) : kWo y := ⟨fun j hj => by rw [e 10 (by decide)]; exact h.1 j hj, fun q hq => by rw [e 9 (by decide)]; exact h.2 q hq⟩
theorem he_1 {x y : kY} (h : kHe x) (e : y.1 = x.1) : kHe y := by
  unfold kHe at h ⊢
  rw [e]
  exact h
theorem waL_lo {n : Nat} {k : Nat} : ∀ {x : kY} {j : Nat} {m : Int32}, j + k = 10 → ∀ q, q < j → (waL n k x j m).1.2 8 q = x.2 8 q := by
  induction k with
  | zero => intro x j m _ q _; rfl
  | succ k ih =>
    intro x j m hj q hq
    have go : ∀ (c : Int32) (m2 : Int32), (waL n k (yR x 8 (upd (x.2 8) (Int32.toNatClampNeg (nI j)) c)) (j + 1) m2).1.2 8 q = x.2 8 q := by
      intro c m2
      rw [ih (by omega) q (by omega)]
      show upd (x.2 8) (Int32.toNatClampNeg (nI j)) c q = _
      rw [nI_clamp (by omega), pk_un (by omega)]
    rw [waL]
    repeat' split
    all_goals exact go _ _
theorem wW_ne {q : Nat} (h : q < 52) : ¬ wW.getD q 0 = (-1) := by
  have h2 : ∀ q, q < 52 → ¬ wW.getD q 0 = (-1) := by decide
  exact h2 q h
theorem b01_or {m c : Int32} (h : kB01 m) (hc : kB01 c) : kB01 (m ||| c) := (nar_or h hc).2
/-- a word that is still left -/
theorem waL_m {n : Nat} (hn : n < 60) {k : Nat} : ∀ {x : kY} {j : Nat} {m : Int32}, kWo x → j + k = 10 → kB01 m → kB01 (waL n k x j m).2 ∧ (¬ (waL n k x j m).2 = 0 → ¬ m = 0 ∨ ∃ w, w < 10 ∧ (waL n k x j m).1.2 8 w = 1 ∧ wA.getD w 0 + n < wA.getD (w + 1) 0 ∧ ¬ f_X12_sign x = (-1)) := by
  induction k with
  | zero => intro x j m _ _ hm; exact ⟨hm, fun h => Or.inl h⟩
  | succ k ih =>
    intro x j m hwo hj hm
    have hs : ∀ f, f_X12_sign (yR x 8 f) = f_X12_sign x := fun f => rfl
    have go0 : ∀ (c : Int32), kB01 (waL n k (yR x 8 (upd (x.2 8) (Int32.toNatClampNeg (nI j)) c)) (j + 1) (m ||| 0)).2 ∧ (¬ (waL n k (yR x 8 (upd (x.2 8) (Int32.toNatClampNeg (nI j)) c)) (j + 1) (m ||| 0)).2 = 0 → ¬ m = 0 ∨ ∃ w, w < 10 ∧ (waL n k (yR x 8 (upd (x.2 8) (Int32.toNatClampNeg (nI j)) c)) (j + 1) (m ||| 0)).1.2 8 w = 1 ∧ wA.getD w 0 + n < wA.getD (w + 1) 0 ∧ ¬ f_X12_sign x = (-1)) := by
      intro c
      have h := ih (x := yR x 8 (upd (x.2 8) (Int32.toNatClampNeg (nI j)) c)) (j := j + 1) (m := m ||| 0) hwo (by omega) (b01_or hm (Or.inl rfl))
      have e : m ||| 0 = m := by rcases hm with h | h <;> rw [h] <;> decide
      rw [e] at h ⊢
      exact h
    have go1 : ∀ (c : Int32), upd (x.2 8) (Int32.toNatClampNeg (nI j)) c (Int32.toNatClampNeg (nI j)) = 1 → wA.getD j 0 + n < wA.getD (j + 1) 0 → ¬ f_X12_sign x = (-1) → kB01 (waL n k (yR x 8 (upd (x.2 8) (Int32.toNatClampNeg (nI j)) c)) (j + 1) (m ||| 1)).2 ∧ (¬ (waL n k (yR x 8 (upd (x.2 8) (Int32.toNatClampNeg (nI j)) c)) (j + 1) (m ||| 1)).2 = 0 → ¬ m = 0 ∨ ∃ w, w < 10 ∧ (waL n k (yR x 8 (upd (x.2 8) (Int32.toNatClampNeg (nI j)) c)) (j + 1) (m ||| 1)).1.2 8 w = 1 ∧ wA.getD w 0 + n < wA.getD (w + 1) 0 ∧ ¬ f_X12_sign x = (-1)) := by
      intro c h1 h2 h3
      have h := ih (x := yR x 8 (upd (x.2 8) (Int32.toNatClampNeg (nI j)) c)) (j := j + 1) (m := m ||| 1) hwo (by omega) (b01_or hm (Or.inr rfl))
      refine ⟨h.1, fun _ => Or.inr ⟨j, by omega, ?_, h2, h3⟩⟩
      rw [waL_lo (by omega) j (by omega)]
      show upd (x.2 8) (Int32.toNatClampNeg (nI j)) c j = 1
      rw [nI_clamp (by omega)] at h1 ⊢
      exact h1
    have z0 : ∀ c : Int32, c = c &&& 0 → False → True := fun _ _ _ => trivial
    rw [waL]
    split
    · split
      · rename_i h1
        exfalso
        rw [pk_us] at h1
        rw [show x.2 8 (Int32.toNatClampNeg (nI j)) &&& 0 = 0 from Int32.and_zero] at h1
        exact absurd h1 (by decide)
      · exact go0 _
    · rename_i hl
      have h2 := (wo_lt hwo (show j < 10 by omega) hn).mp hl
      split
      · rename_i h3
        have h4 := wA_le (show j < 10 by omega)
        have h5 : ¬ f_X12_sign x = (-1) := by
          rw [← h3, wo_0 hwo (by omega), nI_add, nI_clamp (by omega), hwo.2 _ (by omega)]
          exact wW_ne (by omega)
        split
        · rename_i h1
          exact go1 _ h1 h2 h5
        · exact go0 _
      · split
        · rename_i h1
          exfalso
          rw [pk_us] at h1
          rw [show x.2 8 (Int32.toNatClampNeg (nI j)) &&& 0 = 0 from Int32.and_zero] at h1
          exact absurd h1 (by decide)
        · exact go0 _
def kI10 (i : Int32) : Prop := i = (-1) ∨ ∃ w, w < 10 ∧ i = nI w
theorem wb_r {x : kY} {n : Nat} {k : Nat} : ∀ {j : Nat} {i : Int32}, j + k = 10 → kI10 i → kI10 (wbL x n k j i) := by
  induction k with
  | zero => intro j i _ h; exact h
  | succ k ih =>
    intro j i hj h
    rw [wbL]
    split
    · split
      · exact ih (by omega) (Or.inr ⟨j, by omega, rfl⟩)
      · exact ih (by omega) h
    · exact ih (by omega) h
theorem wb_ge {x : kY} {n : Nat} {k : Nat} : ∀ {j : Nat} {i : Int32}, j + k = 10 → 0 ≤ i → 0 ≤ wbL x n k j i := by
  induction k with
  | zero => intro j i _ h; exact h
  | succ k ih =>
    intro j i hj h
    rw [wbL]
    split
    · split
      · exact ih (by omega) (nI_le (a := 0) (b := j) (by omega) (by omega))
      · exact ih (by omega) h
    · exact ih (by omega) h
theorem wb_no {x : kY} {n : Nat} (hn : n < 60) (hwo : kWo x) {k : Nat} : ∀ {j : Nat} {i : Int32}, j + k = 10 → ¬ 0 ≤ wbL x n k j i → ∀ w, j ≤ w → w < 10 → x.2 8 w = 1 → ¬ wA.getD w 0 + n = wA.getD (w + 1) 0 := by
  induction k with
  | zero => intro j i hj _ w h1 h2; omega
  | succ k ih =>
    intro j i hj h w h1 h2 h3 h4
    rw [wbL] at h
    by_cases hw : w = j
    · subst hw
      rw [nI_clamp (by omega), if_pos h3] at h
      have h5 := (wo_eq hwo (show w < 10 by omega) hn).mpr h4
      rw [nI_clamp (by omega)] at h5
      rw [if_pos h5] at h
      exact h (wb_ge (by omega) (nI_le (a := 0) (b := w) (by omega) (by omega)))
    · split at h
      · split at h
        · exact ih (by omega) h w (by omega) h2 h3 h4
        · exact ih (by omega) h w (by omega) h2 h3 h4
      · exact ih (by omega) h w (by omega) h2 h3 h4
theorem wI {x q : kY} {j : Nat} {i : Int32} (hwo : kWo x) (hj : j < 7) (hm : ¬ (waL j 10 x 0 0).2 = 0) (h : ¬ 0 ≤ wbL q (j + 1) 10 0 i) (hq : q.2 = (waL j 10 x 0 0).1.2) : j + 1 ≤ 5 := by
  rcases (waL_m (n := j) (by omega) (k := 10) (x := x) (j := 0) (m := 0) hwo (by omega) (Or.inl rfl)).2 hm with z | ⟨w, h1, h2, h3, h4⟩
  · exact absurd rfl z
  · have hwq : kWo q := wo_r hwo (fun r hr => by rw [hq]; exact waL_x.2 r hr)
    have h5 := wb_no (n := j + 1) (by omega) hwq (by omega) h w (by omega) h1 (by rw [hq]; exact h2)
    have h6 := wA_le h1
    omega
theorem wH {x : kY} {j : Nat} (hwo : kWo x) (hj : j < 7) (hm : ¬ (waL j 10 x 0 0).2 = 0) : ¬ x.1 11 ≤ x.1 10 := by
  rcases (waL_m (n := j) (by omega) (k := 10) (x := x) (j := 0) (m := 0) hwo (by omega) (Or.inl rfl)).2 hm with z | ⟨w, h1, h2, h3, h4⟩
  · exact absurd rfl z
  · exact sg_lt h4
theorem wE {x y : kY} {a : Int32} (he : kHe x) (h : ¬ x.1 11 ≤ x.1 10) (e : y.1 = x.1) : kHe (yS (yS y 13 a) 10 (y.1 10 + 1)) := by
  have h2 := he_up he h
  obtain ⟨q1, q2, q3, q4, q5, q6⟩ := h2
  exact ⟨q1, q2, q3, q4, by show y.1 11 = _; rw [e]; exact q5, by show y.1 10 + 1 = _; rw [e]; exact q6⟩
theorem wE0 {x y : kY} {a : Int32} (he : kHe x) (e : y.1 = x.1) : kHe (yS (yS y 13 a) 10 (y.1 10 + 0)) := by
  obtain ⟨q1, q2, q3, q4, q5, q6⟩ := he
  exact ⟨q1, q2, q3, q4, by show y.1 11 = _; rw [e]; exact q5, by show y.1 10 + 0 = _; rw [e, Int32.add_zero]; exact q6⟩
theorem hi_0 : kI10 (-1) := Or.inl rfl
def wmL : Nat → kY → Nat → Int32 → kY × Int32
  | 0, x, j, i => if 0 ≤ i then (x, i) else (x, i)
  | k + 1, x, j, i => if 0 ≤ i then (x, i) else (if (x.1 13) = 0 then (if (waL j 10 x 0 0).2 = 0 then (wmL k (yS (yS (waL j 10 x 0 0).1 13 1) 10 (((waL j 10 x 0 0).1.1 10) + 0)) (j + 1) (wbL (yS (yS (waL j 10 x 0 0).1 13 1) 10 (((waL j 10 x 0 0).1.1 10) + 0)) (j + 1) 10 0 i)) else (wmL k (yS (yS (waL j 10 x 0 0).1 13 0) 10 (((waL j 10 x 0 0).1.1 10) + 1)) (j + 1) (wbL (yS (yS (waL j 10 x 0 0).1 13 0) 10 (((waL j 10 x 0 0).1.1 10) + 1)) (j + 1) 10 0 i))) else (x, i))
set_option maxRecDepth 100000 in
set_option maxHeartbeats 4000000 in
theorem lwmL {a9 : kH} {z9 : kE × kE} {Q : kQ}  : ∀ (k : Nat) (x : kY) (j : Nat) (i : Int32) (t3 : Value) (t4 : Value), j + k = 7 → kWo x → kHe x → kB01 (x.1 13) → kI10 i → (¬ 0 ≤ i → x.1 13 = 0 → j ≤ 5) → (∀ (z1 : Value) (z3 : Value) (z4 : Value), kEv kX12_word (kRm kX12_word 0 0) (kFm false 0 0 (Q)) false 222 [.ref 116, z1, .int (wmL k x j i).2, z3, z4] [] (kTp a9 (kHr (wmL k x j i).1 z9)) 130 0 0) → kEv kX12_word (kRm kX12_word 0 0) (kFm false 0 0 (Q)) false 25 [.ref 116, .int (nI j), .int i, t3, t4] [] (kTp a9 (kHr x z9)) 130 0 0 := by
  intro k
  induction k with
  | zero =>
    intro x j i t3 t4 hj hwo he hb hi hI hx
    refine k_iload_n (i := 2) dX12_word_25 (rfl : 25 + 1 = 26) rfl rfl ?_
    refine k_if_ge (tgt := 222) dX12_word_26 (rfl : 26 + 3 = 29) (by decide) (fun b26 => ?_) (fun b26 => ?_)
    · rw [wmL, if_pos (show 0 ≤ i from b26)] at hx
      exact hx _ _ _
    · refine k_aload_n (i := 0) dX12_word_29 (rfl : 29 + 1 = 30) rfl rfl ?_
      refine k_get 12 24 fg_X12_237 dX12_word_30 (rfl : 30 + 3 = 33) (Nat.le_of_ble_eq_true rfl) rfl rfl ?_
      refine k_if_ne (tgt := 222) dX12_word_33 (rfl : 33 + 3 = 36) (by decide) (fun b33 => ?_) (fun b33 => by exact absurd (hI b26 b33) (by omega))
      rw [wmL, if_neg (show ¬ (0 ≤ i) from b26)] at hx
      exact hx _ _ _
  | succ k ih =>
    intro x j i t3 t4 hj hwo he hb hi hI hx
    refine k_iload_n (i := 2) dX12_word_25 (rfl : 25 + 1 = 26) rfl rfl ?_
    refine k_if_ge (tgt := 222) dX12_word_26 (rfl : 26 + 3 = 29) (by decide) (fun b26 => ?_) (fun b26 => ?_)
    · rw [wmL, if_pos (show 0 ≤ i from b26)] at hx
      exact hx _ _ _
    · refine k_aload_n (i := 0) dX12_word_29 (rfl : 29 + 1 = 30) rfl rfl ?_
      refine k_get 12 24 fg_X12_237 dX12_word_30 (rfl : 30 + 3 = 33) (Nat.le_of_ble_eq_true rfl) rfl rfl ?_
      refine k_if_ne (tgt := 222) dX12_word_33 (rfl : 33 + 3 = 36) (by decide) (fun b33 => ?_) (fun b33 => ?_)
      · rw [wmL, if_neg (show ¬ (0 ≤ i) from b26), if_neg (show ¬ ((x.1 13) = 0) from b33)] at hx
        exact hx _ _ _
      · refine k_iconst (v := 0) dX12_word_36 (rfl : 36 + 1 = 37) (by decide) ?_
        refine k_istore_n (i := 3) dX12_word_37 (rfl : 37 + 1 = 38) rfl (Nat.le_of_ble_eq_true rfl) ?_
        refine k_ls (ls2 := [.ref 116, .int (nI j), .int i, .int 0, t4]) rfl ?_
        refine k_iconst (v := 0) dX12_word_38 (rfl : 38 + 1 = 39) (by decide) ?_
        refine k_istore (i := 4) dX12_word_39 (rfl : 39 + 2 = 41) (Nat.le_of_ble_eq_true rfl) ?_
        refine k_ls (ls2 := [.ref 116, .int (nI j), .int i, .int 0, .int 0]) rfl ?_
        refine lwaL (n := j) (by omega) 10 x 0 0 (by omega) hwo he (fun z4 => ?_)
        generalize hw41 : (waL j 10 x 0 0) = w41
        refine k_aload_n (i := 0) dX12_word_130 (rfl : 130 + 1 = 131) rfl rfl ?_
        refine k_iload_n (i := 3) dX12_word_131 (rfl : 131 + 1 = 132) rfl rfl ?_
        refine k_if_ne (tgt := 139) dX12_word_132 (rfl : 132 + 3 = 135) (by decide) (fun b132 => ?_) (fun b132 => ?_)
        · refine k_iconst (v := 0) dX12_word_139 (rfl : 139 + 1 = 140) (by decide) ?_
          refine k_put 12 24 fp_X12_237 dX12_word_140 (rfl : 140 + 3 = 143) (Nat.le_of_ble_eq_true rfl) rfl (Nat.le_of_ble_eq_true rfl) rfl rfl ?_
          refine kf_Y13 (v := 0) rfl ?_
          refine k_aload_n (i := 0) dX12_word_143 (rfl : 143 + 1 = 144) rfl rfl ?_
          refine k_dup dX12_word_144 (rfl : 144 + 1 = 145) rfl ?_
          refine k_get 12 21 fg_X12_231 dX12_word_145 (rfl : 145 + 3 = 148) (Nat.le_of_ble_eq_true rfl) rfl rfl ?_
          refine k_iload_n (i := 3) dX12_word_148 (rfl : 148 + 1 = 149) rfl rfl ?_
          refine k_if_eq (tgt := 156) dX12_word_149 (rfl : 149 + 3 = 152) (by decide) (fun b149 => by exact absurd b149 b132) (fun b149 => ?_)
          refine k_iconst (v := 1) dX12_word_152 (rfl : 152 + 1 = 153) (by decide) ?_
          refine k_goto (tgt := 157) dX12_word_153 (by decide) ?_
          refine k_iadd dX12_word_157 (rfl : 157 + 1 = 158) ?_
          refine k_put 12 21 fp_X12_231 dX12_word_158 (rfl : 158 + 3 = 161) (Nat.le_of_ble_eq_true rfl) rfl (Nat.le_of_ble_eq_true rfl) rfl rfl ?_
          refine kf_Y10 (v := ((w41.1.1 10) + 1)) rfl ?_
          refine k_iinc (i := 1) (v := (nI (j + 1))) dX12_word_161 (rfl : 161 + 3 = 164) rfl (Nat.le_of_ble_eq_true rfl) (nI_1 _) ?_
          refine k_ls (ls2 := [.ref 116, .int (nI (j + 1)), .int i, .int w41.2, z4]) rfl ?_
          refine k_iconst (v := 0) dX12_word_164 (rfl : 164 + 1 = 165) (by decide) ?_
          refine k_istore (i := 4) dX12_word_165 (rfl : 165 + 2 = 167) (Nat.le_of_ble_eq_true rfl) ?_
          refine k_ls (ls2 := [.ref 116, .int (nI (j + 1)), .int i, .int w41.2, .int 0]) rfl ?_
          refine lwbL (n := (j + 1)) 10 0 i (by omega) (fun z4 => ?_)
          generalize hw167 : (wbL (yS (yS w41.1 13 0) 10 ((w41.1.1 10) + 1)) (j + 1) 10 0 i) = w167
          refine k_goto (tgt := 25) dX12_word_219 (by decide) ?_
          subst hw167
          subst hw41
          rw [wmL, if_neg (show ¬ (0 ≤ i) from b26), if_pos (show (x.1 13) = 0 from b33), if_neg (show ¬ ((waL j 10 x 0 0).2 = 0) from b132)] at hx
          exact ih (yS (yS (waL j 10 x 0 0).1 13 0) 10 (((waL j 10 x 0 0).1.1 10) + 1)) (j + 1) (wbL (yS (yS (waL j 10 x 0 0).1 13 0) 10 (((waL j 10 x 0 0).1.1 10) + 1)) (j + 1) 10 0 i) _ _ (by omega) (wo_r hwo (fun r hr => (waL_x (n := j) (k := 10) (x := x) (j := 0) (m := 0)).2 r hr)) (wE he (wH hwo (by omega) b132) (waL_x (n := j) (k := 10) (x := x) (j := 0) (m := 0)).1) (Or.inl rfl) (wb_r (by omega) hi) (fun h8 _ => wI hwo (by omega) b132 h8 rfl) hx
        · refine k_iconst (v := 1) dX12_word_135 (rfl : 135 + 1 = 136) (by decide) ?_
          refine k_goto (tgt := 140) dX12_word_136 (by decide) ?_
          refine k_put 12 24 fp_X12_237 dX12_word_140 (rfl : 140 + 3 = 143) (Nat.le_of_ble_eq_true rfl) rfl (Nat.le_of_ble_eq_true rfl) rfl rfl ?_
          refine kf_Y13 (v := 1) rfl ?_
          refine k_aload_n (i := 0) dX12_word_143 (rfl : 143 + 1 = 144) rfl rfl ?_
          refine k_dup dX12_word_144 (rfl : 144 + 1 = 145) rfl ?_
          refine k_get 12 21 fg_X12_231 dX12_word_145 (rfl : 145 + 3 = 148) (Nat.le_of_ble_eq_true rfl) rfl rfl ?_
          refine k_iload_n (i := 3) dX12_word_148 (rfl : 148 + 1 = 149) rfl rfl ?_
          refine k_if_eq (tgt := 156) dX12_word_149 (rfl : 149 + 3 = 152) (by decide) (fun b149 => ?_) (fun b149 => by exact absurd b132 b149)
          refine k_iconst (v := 0) dX12_word_156 (rfl : 156 + 1 = 157) (by decide) ?_
          refine k_iadd dX12_word_157 (rfl : 157 + 1 = 158) ?_
          refine k_put 12 21 fp_X12_231 dX12_word_158 (rfl : 158 + 3 = 161) (Nat.le_of_ble_eq_true rfl) rfl (Nat.le_of_ble_eq_true rfl) rfl rfl ?_
          refine kf_Y10 (v := ((w41.1.1 10) + 0)) rfl ?_
          refine k_iinc (i := 1) (v := (nI (j + 1))) dX12_word_161 (rfl : 161 + 3 = 164) rfl (Nat.le_of_ble_eq_true rfl) (nI_1 _) ?_
          refine k_ls (ls2 := [.ref 116, .int (nI (j + 1)), .int i, .int w41.2, z4]) rfl ?_
          refine k_iconst (v := 0) dX12_word_164 (rfl : 164 + 1 = 165) (by decide) ?_
          refine k_istore (i := 4) dX12_word_165 (rfl : 165 + 2 = 167) (Nat.le_of_ble_eq_true rfl) ?_
          refine k_ls (ls2 := [.ref 116, .int (nI (j + 1)), .int i, .int w41.2, .int 0]) rfl ?_
          refine lwbL (n := (j + 1)) 10 0 i (by omega) (fun z4 => ?_)
          generalize hw167 : (wbL (yS (yS w41.1 13 1) 10 ((w41.1.1 10) + 0)) (j + 1) 10 0 i) = w167
          refine k_goto (tgt := 25) dX12_word_219 (by decide) ?_
          subst hw167
          subst hw41
          rw [wmL, if_neg (show ¬ (0 ≤ i) from b26), if_pos (show (x.1 13) = 0 from b33), if_pos (show (waL j 10 x 0 0).2 = 0 from b132)] at hx
          exact ih (yS (yS (waL j 10 x 0 0).1 13 1) 10 (((waL j 10 x 0 0).1.1 10) + 0)) (j + 1) (wbL (yS (yS (waL j 10 x 0 0).1 13 1) 10 (((waL j 10 x 0 0).1.1 10) + 0)) (j + 1) 10 0 i) _ _ (by omega) (wo_r hwo (fun r hr => (waL_x (n := j) (k := 10) (x := x) (j := 0) (m := 0)).2 r hr)) (wE0 he (waL_x (n := j) (k := 10) (x := x) (j := 0) (m := 0)).1) (Or.inr rfl) (wb_r (by omega) hi) (fun _ h9 => absurd h9 (by show ¬ (1 : Int32) = 0; decide)) hx
theorem wiL_x {k : Nat} : ∀ {x : kY} {j : Nat}, (wiL k x j).1 = x.1 ∧ ∀ r, r ≠ 8 → (wiL k x j).2 r = x.2 r := by
  induction k with
  | zero => intro x j; exact ⟨rfl, fun _ _ => rfl⟩
  | succ k ih =>
    intro x j
    rw [wiL]
    have h := ih (x := yR x 8 (upd (x.2 8) (Int32.toNatClampNeg (nI j)) 1)) (j := j + 1)
    exact ⟨h.1, fun r hr => (h.2 r hr).trans (if_neg hr)⟩
def f_X12_word (x : kY)  : Int32 := (wmL 7 (wiL 10 x 0) 0 (-1)).2
def g_X12_word (x : kY)  : kY := (wmL 7 (wiL 10 x 0) 0 (-1)).1
set_option maxRecDepth 100000 in
set_option maxHeartbeats 4000000 in
theorem m_X12_word {x : kY} {a9 : kH} {z9 : kE × kE} (hwo : kWo x) (he : kHe x) (hb : kB01 (x.1 13)) : kMet kX12_word false 0 0 [.ref 116] (kTp a9 (kHr x z9)) 130 (kRt (some (.int (f_X12_word x ))) (kTp a9 (kHr (g_X12_word x ) z9)) 130) := by
  refine kMet.in (by decide) rfl rfl _ rfl ?_
  refine k_iconst (v := 0) dX12_word_0 (rfl : 0 + 1 = 1) (by decide) ?_
  refine k_istore_n (i := 1) dX12_word_1 (rfl : 1 + 1 = 2) rfl (Nat.le_of_ble_eq_true rfl) ?_
  refine k_ls (ls2 := [.ref 116, .int 0, .retAddr 0, .retAddr 0, .retAddr 0]) rfl ?_
  refine lwiL 10 x 0 (by omega) (fun z1 => ?_)
  generalize hw2 : (wiL 10 x 0) = w2
  refine k_iconst (v := 0) dX12_word_21 (rfl : 21 + 1 = 22) (by decide) ?_
  refine k_istore_n (i := 1) dX12_word_22 (rfl : 22 + 1 = 23) rfl (Nat.le_of_ble_eq_true rfl) ?_
  refine k_ls (ls2 := [.ref 116, .int 0, .retAddr 0, .retAddr 0, .retAddr 0]) rfl ?_
  refine k_iconst (v := (-1)) dX12_word_23 (rfl : 23 + 1 = 24) (by decide) ?_
  refine k_istore_n (i := 2) dX12_word_24 (rfl : 24 + 1 = 25) rfl (Nat.le_of_ble_eq_true rfl) ?_
  refine k_ls (ls2 := [.ref 116, .int 0, .int (-1), .retAddr 0, .retAddr 0]) rfl ?_
  refine lwmL 7 w2 0 (-1) _ _ (by omega) (by rw [← hw2]; exact wo_r hwo (fun r hr => wiL_x.2 r hr)) (by rw [← hw2]; exact he_1 he wiL_x.1) (by rw [← hw2, wiL_x.1]; exact hb) hi_0 (fun _ _ => by omega) (fun z1 z3 z4 => ?_)
  generalize hw25 : (wmL 7 w2 0 (-1)) = w25
  refine k_iload_n (i := 2) dX12_word_222 (rfl : 222 + 1 = 223) rfl rfl ?_
  refine k_iret rfl rfl dX12_word_223 (Nat.le_of_ble_eq_true rfl) (Nat.le_of_ble_eq_true rfl) ?_
  subst hw25
  subst hw2
  exact kRt_of rfl rfl
