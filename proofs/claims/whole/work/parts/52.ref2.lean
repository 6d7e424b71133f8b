theorem pl_self {a : Int32} (h : kP8 a) : f_X12_pleaAt a 0 = nI (Int32.toNatClampNeg (f_X12_pleaAt a 0)) ∧ Int32.toNatClampNeg (f_X12_pleaAt a 0) ≤ 116 := by
  obtain ⟨n, hn, rfl⟩ := h
  have h2 : ∀ n, n < 8 → f_X12_pleaAt (nI n) 0 = nI (92 + 3 * n) := by decide
  rw [h2 n hn, nI_clamp (by omega)]
  exact ⟨rfl, by omega⟩
theorem in_add {j m n : Nat} (h : j + m < n) (hn : n < 2 ^ 31) : vp_in (nI j + nI m) n := by
  rw [nI_add]
  exact vp_in_nI h hn
theorem lt_116 {j m n : Nat} (hn : n < 2 ^ 31) (hj : j + m < 2 ^ 31) (h : ¬ nI n ≤ nI j + nI m) : j + m < n := by
  rw [nI_add] at h
  rcases Nat.lt_or_ge (j + m) n with q | q
  · exact q
  · exact absurd (nI_le (a := n) (b := j + m) q hj) h
def goL : Nat → kY → Nat → kY
  | 0, x, j => x
  | k + 1, x, j => if 116 ≤ ((nI j) + 3) then (goL k (yR x 0 (upd (x.2 0) (Int32.toNatClampNeg (nI j)) 0)) (j + 1)) else (goL k (yR x 0 (upd (x.2 0) (Int32.toNatClampNeg (nI j)) ((x.2 0) (Int32.toNatClampNeg ((nI j) + 3))))) (j + 1))
set_option maxRecDepth 100000 in
set_option maxHeartbeats 4000000 in
theorem lgoL {a9 : kH} {z9 : kE × kE} {Q : kQ} {a : Int32}  : ∀ (k : Nat) (x : kY) (j : Nat), j + k = 116 → (∀ (z2 : Value), kEv kX12_goes (kRm kX12_goes 0 0) (kFm false 0 0 (Q)) false 44 [.ref 116, .int a, z2] [] (kTp a9 (kHr (goL k x j) z9)) 130 0 0) → kEv kX12_goes (kRm kX12_goes 0 0) (kFm false 0 0 (Q)) false 6 [.ref 116, .int a, .int (nI j)] [] (kTp a9 (kHr x z9)) 130 0 0 := by
  intro k
  induction k with
  | zero =>
    intro x j hj hx
    refine k_iload_n (i := 2) dX12_goes_6 (rfl : 6 + 1 = 7) rfl rfl ?_
    refine k_bipush (v := 116) dX12_goes_7 (rfl : 7 + 2 = 9) (by decide) ?_
    refine k_icmp_ge (tgt := 44) dX12_goes_9 (rfl : 9 + 3 = 12) (by decide) (fun b9 => ?_) (fun b9 => by exact absurd (nI_le (a := 116) (b := j) (by omega) (by omega)) b9)
    rw [goL] at hx
    exact hx _
  | succ k ih =>
    intro x j hj hx
    refine k_iload_n (i := 2) dX12_goes_6 (rfl : 6 + 1 = 7) rfl rfl ?_
    refine k_bipush (v := 116) dX12_goes_7 (rfl : 7 + 2 = 9) (by decide) ?_
    refine k_icmp_ge (tgt := 44) dX12_goes_9 (rfl : 9 + 3 = 12) (by decide) (fun b9 => by exact absurd b9 (nI_ge (a := j) (b := 116) (by omega) (by decide))) (fun b9 => ?_)
    refine k_aload_n (i := 0) dX12_goes_12 (rfl : 12 + 1 = 13) rfl rfl ?_
    refine k_get 12 7 fg_X12_16 dX12_goes_13 (rfl : 13 + 3 = 16) (Nat.le_of_ble_eq_true rfl) rfl rfl ?_
    refine k_iload_n (i := 2) dX12_goes_16 (rfl : 16 + 1 = 17) rfl rfl ?_
    refine k_iload_n (i := 2) dX12_goes_17 (rfl : 17 + 1 = 18) rfl rfl ?_
    refine k_iconst (v := 3) dX12_goes_18 (rfl : 18 + 1 = 19) (by decide) ?_
    refine k_iadd dX12_goes_19 (rfl : 19 + 1 = 20) ?_
    refine k_bipush (v := 116) dX12_goes_20 (rfl : 20 + 2 = 22) (by decide) ?_
    refine k_icmp_ge (tgt := 36) dX12_goes_22 (rfl : 22 + 3 = 25) (by decide) (fun b22 => ?_) (fun b22 => ?_)
    · refine k_iconst (v := 0) dX12_goes_36 (rfl : 36 + 1 = 37) (by decide) ?_
      refine k_iast dX12_goes_37 (rfl : 37 + 1 = 38) (Nat.le_of_ble_eq_true rfl) rfl (vp_in_nI (by omega) (by omega)) ?_
      refine kf_Z0 (f := (upd (x.2 0) (Int32.toNatClampNeg (nI j)) 0)) rfl ?_
      refine k_iinc (i := 2) (v := (nI (j + 1))) dX12_goes_38 (rfl : 38 + 3 = 41) rfl (Nat.le_of_ble_eq_true rfl) (nI_1 _) ?_
      refine k_ls (ls2 := [.ref 116, .int a, .int (nI (j + 1))]) rfl ?_
      refine k_goto (tgt := 6) dX12_goes_41 (by decide) ?_
      rw [goL, if_pos (show 116 ≤ ((nI j) + 3) from b22)] at hx
      exact ih (yR x 0 (upd (x.2 0) (Int32.toNatClampNeg (nI j)) 0)) (j + 1) (by omega) hx
    · refine k_aload_n (i := 0) dX12_goes_25 (rfl : 25 + 1 = 26) rfl rfl ?_
      refine k_get 12 7 fg_X12_16 dX12_goes_26 (rfl : 26 + 3 = 29) (Nat.le_of_ble_eq_true rfl) rfl rfl ?_
      refine k_iload_n (i := 2) dX12_goes_29 (rfl : 29 + 1 = 30) rfl rfl ?_
      refine k_iconst (v := 3) dX12_goes_30 (rfl : 30 + 1 = 31) (by decide) ?_
      refine k_iadd dX12_goes_31 (rfl : 31 + 1 = 32) ?_
      refine k_iald dX12_goes_32 (rfl : 32 + 1 = 33) (Nat.le_of_ble_eq_true rfl) rfl (in_add (m := 3) (lt_116 (n := 116) (m := 3) (by decide) (by omega) b22) (by decide)) ?_
      refine k_goto (tgt := 37) dX12_goes_33 (by decide) ?_
      refine k_iast dX12_goes_37 (rfl : 37 + 1 = 38) (Nat.le_of_ble_eq_true rfl) rfl (vp_in_nI (by omega) (by omega)) ?_
      refine kf_Z0 (f := (upd (x.2 0) (Int32.toNatClampNeg (nI j)) ((x.2 0) (Int32.toNatClampNeg ((nI j) + 3))))) rfl ?_
      refine k_iinc (i := 2) (v := (nI (j + 1))) dX12_goes_38 (rfl : 38 + 3 = 41) rfl (Nat.le_of_ble_eq_true rfl) (nI_1 _) ?_
      refine k_ls (ls2 := [.ref 116, .int a, .int (nI (j + 1))]) rfl ?_
      refine k_goto (tgt := 6) dX12_goes_41 (by decide) ?_
      rw [goL, if_neg (show ¬ (116 ≤ ((nI j) + 3)) from b22)] at hx
      exact ih (yR x 0 (upd (x.2 0) (Int32.toNatClampNeg (nI j)) ((x.2 0) (Int32.toNatClampNeg ((nI j) + 3))))) (j + 1) (by omega) hx
def g_X12_goes (x : kY) (a1 : Int32) : kY := (yR (goL (116 - (Int32.toNatClampNeg (f_X12_pleaAt a1 0))) x (Int32.toNatClampNeg (f_X12_pleaAt a1 0))) 0 (upd ((goL (116 - (Int32.toNatClampNeg (f_X12_pleaAt a1 0))) x (Int32.toNatClampNeg (f_X12_pleaAt a1 0))).2 0) 7 ((((goL (116 - (Int32.toNatClampNeg (f_X12_pleaAt a1 0))) x (Int32.toNatClampNeg (f_X12_pleaAt a1 0))).2 0) 7) - 1)))
set_option maxRecDepth 100000 in
set_option maxHeartbeats 4000000 in
theorem m_X12_goes {x : kY} {a9 : kH} {z9 : kE × kE} {a1 : Int32} (hp : kP8 a1) : kMet kX12_goes false 0 0 [.ref 116, .int a1] (kTp a9 (kHr x z9)) 130 (kRt (none) (kTp a9 (kHr (g_X12_goes x a1) z9)) 130) := by
  refine kMet.in (by decide) rfl rfl _ rfl ?_
  refine k_iload_n (i := 1) dX12_goes_0 (rfl : 0 + 1 = 1) rfl rfl ?_
  refine k_iconst (v := 0) dX12_goes_1 (rfl : 1 + 1 = 2) (by decide) ?_
  refine k_callSd2 cv_X12_77 ⟨Nat.le_of_ble_eq_true rfl, Nat.le_of_ble_eq_true rfl⟩ (m_X12_pleaAt) dX12_goes_2 (rfl : 2 + 3 = 5) rfl ⟨Nat.le_of_ble_eq_true rfl, Nat.le_of_ble_eq_true rfl⟩ ?_
  refine k_istore_n (i := 2) dX12_goes_5 (rfl : 5 + 1 = 6) rfl (Nat.le_of_ble_eq_true rfl) ?_
  refine k_ls (ls2 := [.ref 116, .int a1, .int (f_X12_pleaAt a1 0)]) rfl ?_
  refine k_ls (ls2 := [.ref 116, .int a1, .int (nI (Int32.toNatClampNeg (f_X12_pleaAt a1 0)))]) (by rw [← (pl_self hp).1]) ?_
  refine lgoL (116 - (Int32.toNatClampNeg (f_X12_pleaAt a1 0))) x (Int32.toNatClampNeg (f_X12_pleaAt a1 0)) (by have := (pl_self hp).2; omega) (fun z2 => ?_)
  generalize hw6 : (goL (116 - (Int32.toNatClampNeg (f_X12_pleaAt a1 0))) x (Int32.toNatClampNeg (f_X12_pleaAt a1 0))) = w6
  refine k_aload_n (i := 0) dX12_goes_44 (rfl : 44 + 1 = 45) rfl rfl ?_
  refine k_get 12 7 fg_X12_16 dX12_goes_45 (rfl : 45 + 3 = 48) (Nat.le_of_ble_eq_true rfl) rfl rfl ?_
  refine k_bipush (v := 7) dX12_goes_48 (rfl : 48 + 2 = 50) (by decide) ?_
  refine k_dup2_11 dX12_goes_50 (rfl : 50 + 1 = 51) rfl rfl ?_
  refine k_ialdc (c := 7) (by decide) dX12_goes_51 (rfl : 51 + 1 = 52) (Nat.le_of_ble_eq_true rfl) rfl (vp_in_iff.mpr (by decide)) ?_
  refine k_iconst (v := 1) dX12_goes_52 (rfl : 52 + 1 = 53) (by decide) ?_
  refine k_isub dX12_goes_53 (rfl : 53 + 1 = 54) ?_
  refine k_iastc (c := 7) (by decide) dX12_goes_54 (rfl : 54 + 1 = 55) (Nat.le_of_ble_eq_true rfl) rfl (vp_in_iff.mpr (by decide)) ?_
  refine kf_Z0 (f := (upd (w6.2 0) 7 (((w6.2 0) 7) - 1))) rfl ?_
  refine k_vret rfl dX12_goes_55 (Nat.le_of_ble_eq_true rfl) (Nat.le_of_ble_eq_true rfl) ?_
  subst hw6
  exact kRt_of rfl rfl
def trL (v : Nat → Int32) : Nat → Nat → Int32 → Int32
  | 0, j, s => s
  | k + 1, j, s => (trL v k (j + 1) (s + (v (Int32.toNatClampNeg (12 + (nI j))))))
set_option maxRecDepth 100000 in
set_option maxHeartbeats 4000000 in
theorem ltrL {x : kY} {a9 : kH} {z9 : kE × kE} {Q : kQ}  : ∀ (k : Nat) (j : Nat) (s : Int32), j + k = 64 → (∀ (z2 : Value), kEv kX12_trees (kRm kX12_trees 0 0) (kFm false 0 0 (Q)) false 28 [.ref 116, .int (trL (x.2 0) k j s), z2] [] (kTp a9 (kHr x z9)) 130 0 0) → kEv kX12_trees (kRm kX12_trees 0 0) (kFm false 0 0 (Q)) false 4 [.ref 116, .int s, .int (nI j)] [] (kTp a9 (kHr x z9)) 130 0 0 := by
  intro k
  induction k with
  | zero =>
    intro j s hj hx
    refine k_iload_n (i := 2) dX12_trees_4 (rfl : 4 + 1 = 5) rfl rfl ?_
    refine k_bipush (v := 64) dX12_trees_5 (rfl : 5 + 2 = 7) (by decide) ?_
    refine k_icmp_ge (tgt := 28) dX12_trees_7 (rfl : 7 + 3 = 10) (by decide) (fun b7 => ?_) (fun b7 => by exact absurd (nI_le (a := 64) (b := j) (by omega) (by omega)) b7)
    rw [trL] at hx
    exact hx _
  | succ k ih =>
    intro j s hj hx
    refine k_iload_n (i := 2) dX12_trees_4 (rfl : 4 + 1 = 5) rfl rfl ?_
    refine k_bipush (v := 64) dX12_trees_5 (rfl : 5 + 2 = 7) (by decide) ?_
    refine k_icmp_ge (tgt := 28) dX12_trees_7 (rfl : 7 + 3 = 10) (by decide) (fun b7 => by exact absurd b7 (nI_ge (a := j) (b := 64) (by omega) (by decide))) (fun b7 => ?_)
    refine k_iload_n (i := 1) dX12_trees_10 (rfl : 10 + 1 = 11) rfl rfl ?_
    refine k_aload_n (i := 0) dX12_trees_11 (rfl : 11 + 1 = 12) rfl rfl ?_
    refine k_get 12 7 fg_X12_16 dX12_trees_12 (rfl : 12 + 3 = 15) (Nat.le_of_ble_eq_true rfl) rfl rfl ?_
    refine k_bipush (v := 12) dX12_trees_15 (rfl : 15 + 2 = 17) (by decide) ?_
    refine k_iload_n (i := 2) dX12_trees_17 (rfl : 17 + 1 = 18) rfl rfl ?_
    refine k_iadd dX12_trees_18 (rfl : 18 + 1 = 19) ?_
    refine k_iald dX12_trees_19 (rfl : 19 + 1 = 20) (Nat.le_of_ble_eq_true rfl) rfl (c64_in ⟨j, by omega, rfl⟩) ?_
    refine k_iadd dX12_trees_20 (rfl : 20 + 1 = 21) ?_
    refine k_istore_n (i := 1) dX12_trees_21 (rfl : 21 + 1 = 22) rfl (Nat.le_of_ble_eq_true rfl) ?_
    refine k_ls (ls2 := [.ref 116, .int (s + ((x.2 0) (Int32.toNatClampNeg (12 + (nI j))))), .int (nI j)]) rfl ?_
    refine k_iinc (i := 2) (v := (nI (j + 1))) dX12_trees_22 (rfl : 22 + 3 = 25) rfl (Nat.le_of_ble_eq_true rfl) (nI_1 _) ?_
    refine k_ls (ls2 := [.ref 116, .int (s + ((x.2 0) (Int32.toNatClampNeg (12 + (nI j))))), .int (nI (j + 1))]) rfl ?_
    refine k_goto (tgt := 4) dX12_trees_25 (by decide) ?_
    rw [trL] at hx
    exact ih (j + 1) (s + ((x.2 0) (Int32.toNatClampNeg (12 + (nI j))))) (by omega) hx
def f_X12_trees (v : Nat → Int32)  : Int32 := (trL v 64 0 0)
set_option maxRecDepth 100000 in
set_option maxHeartbeats 4000000 in
theorem m_X12_trees {x : kY} {a9 : kH} {z9 : kE × kE} : kMet kX12_trees false 0 0 [.ref 116] (kTp a9 (kHr x z9)) 130 (kRt (some (.int (f_X12_trees (x.2 0) ))) (kTp a9 (kHr x z9)) 130) := by
  refine kMet.in (by decide) rfl rfl _ rfl ?_
  refine k_iconst (v := 0) dX12_trees_0 (rfl : 0 + 1 = 1) (by decide) ?_
  refine k_istore_n (i := 1) dX12_trees_1 (rfl : 1 + 1 = 2) rfl (Nat.le_of_ble_eq_true rfl) ?_
  refine k_ls (ls2 := [.ref 116, .int 0, .retAddr 0]) rfl ?_
  refine k_iconst (v := 0) dX12_trees_2 (rfl : 2 + 1 = 3) (by decide) ?_
  refine k_istore_n (i := 2) dX12_trees_3 (rfl : 3 + 1 = 4) rfl (Nat.le_of_ble_eq_true rfl) ?_
  refine k_ls (ls2 := [.ref 116, .int 0, .int 0]) rfl ?_
  refine ltrL 64 0 0 (by omega) (fun z2 => ?_)
  generalize hw4 : (trL (x.2 0) 64 0 0) = w4
  refine k_iload_n (i := 1) dX12_trees_28 (rfl : 28 + 1 = 29) rfl rfl ?_
  refine k_iret rfl rfl dX12_trees_29 (Nat.le_of_ble_eq_true rfl) (Nat.le_of_ble_eq_true rfl) ?_
  subst hw4
  exact kRt_of rfl rfl
def biL (v : Nat → Int32) (a : Int32) : Nat → Nat → Int64 → Int64
  | 0, j, s => s
  | k + 1, j, s => if a = 0 then (if (f_X12_isTree v (nI j)) = 0 then (biL v a k (j + 1) (s ||| 0)) else (biL v a k (j + 1) (s ||| (1 <<< (Int32.toInt64 (nI j) &&& 63))))) else (if (f_X12_isTree v (nI j)) = 0 then (biL v a k (j + 1) (s ||| 0)) else (biL v a k (j + 1) (s ||| (1 <<< (Int32.toInt64 ((((8 * ((nI j) - (nI j) / 8 * 8)) + 8) - 1) - ((nI j) / 8)) &&& 63)))))
set_option maxRecDepth 100000 in
set_option maxHeartbeats 4000000 in
theorem lbiL {x : kY} {a9 : kH} {z9 : kE × kE} {Q : kQ} {a : Int32}  : ∀ (k : Nat) (j : Nat) (s : Int64) (t5 : Value), j + k = 64 → (∀ (z4 : Value) (z5 : Value), kEv kX12_bits (kRm kX12_bits 0 0) (kFm false 0 0 (Q)) false 68 [.ref 116, .int a, .long (biL (x.2 0) a k j s), .retAddr 0, z4, z5] [] (kTp a9 (kHr x z9)) 130 0 0) → kEv kX12_bits (kRm kX12_bits 0 0) (kFm false 0 0 (Q)) false 5 [.ref 116, .int a, .long s, .retAddr 0, .int (nI j), t5] [] (kTp a9 (kHr x z9)) 130 0 0 := by
  intro k
  induction k with
  | zero =>
    intro j s t5 hj hx
    refine k_iload (i := 4) dX12_bits_5 (rfl : 5 + 2 = 7) rfl ?_
    refine k_bipush (v := 64) dX12_bits_7 (rfl : 7 + 2 = 9) (by decide) ?_
    refine k_icmp_ge (tgt := 68) dX12_bits_9 (rfl : 9 + 3 = 12) (by decide) (fun b9 => ?_) (fun b9 => by exact absurd (nI_le (a := 64) (b := j) (by omega) (by omega)) b9)
    rw [biL] at hx
    exact hx _ _
  | succ k ih =>
    intro j s t5 hj hx
    refine k_iload (i := 4) dX12_bits_5 (rfl : 5 + 2 = 7) rfl ?_
    refine k_bipush (v := 64) dX12_bits_7 (rfl : 7 + 2 = 9) (by decide) ?_
    refine k_icmp_ge (tgt := 68) dX12_bits_9 (rfl : 9 + 3 = 12) (by decide) (fun b9 => by exact absurd b9 (nI_ge (a := j) (b := 64) (by omega) (by decide))) (fun b9 => ?_)
    refine k_iload_n (i := 1) dX12_bits_12 (rfl : 12 + 1 = 13) rfl rfl ?_
    refine k_if_eq (tgt := 38) dX12_bits_13 (rfl : 13 + 3 = 16) (by decide) (fun b13 => ?_) (fun b13 => ?_)
    · refine k_iload (i := 4) dX12_bits_38 (rfl : 38 + 2 = 40) rfl ?_
      refine k_istore (i := 5) dX12_bits_40 (rfl : 40 + 2 = 42) (Nat.le_of_ble_eq_true rfl) ?_
      refine k_ls (ls2 := [.ref 116, .int a, .long s, .retAddr 0, .int (nI j), .int (nI j)]) rfl ?_
      refine k_lload_n (i := 2) dX12_bits_42 (rfl : 42 + 1 = 43) rfl rfl ?_
      refine k_aload_n (i := 0) dX12_bits_43 (rfl : 43 + 1 = 44) rfl rfl ?_
      refine k_iload (i := 4) dX12_bits_44 (rfl : 44 + 2 = 46) rfl ?_
      refine k_callVd1 cv_X12_106 ⟨Nat.le_of_ble_eq_true rfl, Nat.le_of_ble_eq_true rfl⟩ (m_X12_isTree ⟨j, by omega, rfl⟩) dX12_bits_46 (rfl : 46 + 3 = 49) (Nat.le_of_ble_eq_true rfl) rfl rfl rfl ⟨Nat.le_of_ble_eq_true rfl, Nat.le_of_ble_eq_true rfl⟩ ?_
      refine k_if_eq (tgt := 59) dX12_bits_49 (rfl : 49 + 3 = 52) (by decide) (fun b49 => ?_) (fun b49 => ?_)
      · refine k_lconst (v := 0) dX12_bits_59 (rfl : 59 + 1 = 60) (by decide) ?_
        refine k_lor dX12_bits_60 (rfl : 60 + 1 = 61) ?_
        refine k_lstore_n (i := 2) dX12_bits_61 (rfl : 61 + 1 = 62) rfl (Nat.le_of_ble_eq_true rfl) ?_
        refine k_ls (ls2 := [.ref 116, .int a, .long (s ||| 0), .retAddr 0, .int (nI j), .int (nI j)]) rfl ?_
        refine k_iinc (i := 4) (v := (nI (j + 1))) dX12_bits_62 (rfl : 62 + 3 = 65) rfl (Nat.le_of_ble_eq_true rfl) (nI_1 _) ?_
        refine k_ls (ls2 := [.ref 116, .int a, .long (s ||| 0), .retAddr 0, .int (nI (j + 1)), .int (nI j)]) rfl ?_
        refine k_goto (tgt := 5) dX12_bits_65 (by decide) ?_
        rw [biL, if_pos (show a = 0 from b13), if_pos (show (f_X12_isTree (x.2 0) (nI j)) = 0 from b49)] at hx
        exact ih (j + 1) (s ||| 0) _ (by omega) hx
      · refine k_lconst (v := 1) dX12_bits_52 (rfl : 52 + 1 = 53) (by decide) ?_
        refine k_iload (i := 5) dX12_bits_53 (rfl : 53 + 2 = 55) rfl ?_
        refine k_lshl dX12_bits_55 (rfl : 55 + 1 = 56) ?_
        refine k_goto (tgt := 60) dX12_bits_56 (by decide) ?_
        refine k_lor dX12_bits_60 (rfl : 60 + 1 = 61) ?_
        refine k_lstore_n (i := 2) dX12_bits_61 (rfl : 61 + 1 = 62) rfl (Nat.le_of_ble_eq_true rfl) ?_
        refine k_ls (ls2 := [.ref 116, .int a, .long (s ||| (1 <<< (Int32.toInt64 (nI j) &&& 63))), .retAddr 0, .int (nI j), .int (nI j)]) rfl ?_
        refine k_iinc (i := 4) (v := (nI (j + 1))) dX12_bits_62 (rfl : 62 + 3 = 65) rfl (Nat.le_of_ble_eq_true rfl) (nI_1 _) ?_
        refine k_ls (ls2 := [.ref 116, .int a, .long (s ||| (1 <<< (Int32.toInt64 (nI j) &&& 63))), .retAddr 0, .int (nI (j + 1)), .int (nI j)]) rfl ?_
        refine k_goto (tgt := 5) dX12_bits_65 (by decide) ?_
        rw [biL, if_pos (show a = 0 from b13), if_neg (show ¬ ((f_X12_isTree (x.2 0) (nI j)) = 0) from b49)] at hx
        exact ih (j + 1) (s ||| (1 <<< (Int32.toInt64 (nI j) &&& 63))) _ (by omega) hx
    · refine k_bipush (v := 8) dX12_bits_16 (rfl : 16 + 2 = 18) (by decide) ?_
      refine k_iload (i := 4) dX12_bits_18 (rfl : 18 + 2 = 20) rfl ?_
      refine k_bipush (v := 8) dX12_bits_20 (rfl : 20 + 2 = 22) (by decide) ?_
      refine k_irem dX12_bits_22 (rfl : 22 + 1 = 23) (by decide) ?_
      refine k_imul dX12_bits_23 (rfl : 23 + 1 = 24) ?_
      refine k_bipush (v := 8) dX12_bits_24 (rfl : 24 + 2 = 26) (by decide) ?_
      refine k_iadd dX12_bits_26 (rfl : 26 + 1 = 27) ?_
      refine k_iconst (v := 1) dX12_bits_27 (rfl : 27 + 1 = 28) (by decide) ?_
      refine k_isub dX12_bits_28 (rfl : 28 + 1 = 29) ?_
      refine k_iload (i := 4) dX12_bits_29 (rfl : 29 + 2 = 31) rfl ?_
      refine k_bipush (v := 8) dX12_bits_31 (rfl : 31 + 2 = 33) (by decide) ?_
      refine k_idiv dX12_bits_33 (rfl : 33 + 1 = 34) (by decide) ?_
      refine k_isub dX12_bits_34 (rfl : 34 + 1 = 35) ?_
      refine k_goto (tgt := 40) dX12_bits_35 (by decide) ?_
      refine k_istore (i := 5) dX12_bits_40 (rfl : 40 + 2 = 42) (Nat.le_of_ble_eq_true rfl) ?_
      refine k_ls (ls2 := [.ref 116, .int a, .long s, .retAddr 0, .int (nI j), .int ((((8 * ((nI j) - (nI j) / 8 * 8)) + 8) - 1) - ((nI j) / 8))]) rfl ?_
      refine k_lload_n (i := 2) dX12_bits_42 (rfl : 42 + 1 = 43) rfl rfl ?_
      refine k_aload_n (i := 0) dX12_bits_43 (rfl : 43 + 1 = 44) rfl rfl ?_
      refine k_iload (i := 4) dX12_bits_44 (rfl : 44 + 2 = 46) rfl ?_
      refine k_callVd1 cv_X12_106 ⟨Nat.le_of_ble_eq_true rfl, Nat.le_of_ble_eq_true rfl⟩ (m_X12_isTree ⟨j, by omega, rfl⟩) dX12_bits_46 (rfl : 46 + 3 = 49) (Nat.le_of_ble_eq_true rfl) rfl rfl rfl ⟨Nat.le_of_ble_eq_true rfl, Nat.le_of_ble_eq_true rfl⟩ ?_
      refine k_if_eq (tgt := 59) dX12_bits_49 (rfl : 49 + 3 = 52) (by decide) (fun b49 => ?_) (fun b49 => ?_)
      · refine k_lconst (v := 0) dX12_bits_59 (rfl : 59 + 1 = 60) (by decide) ?_
        refine k_lor dX12_bits_60 (rfl : 60 + 1 = 61) ?_
        refine k_lstore_n (i := 2) dX12_bits_61 (rfl : 61 + 1 = 62) rfl (Nat.le_of_ble_eq_true rfl) ?_
        refine k_ls (ls2 := [.ref 116, .int a, .long (s ||| 0), .retAddr 0, .int (nI j), .int ((((8 * ((nI j) - (nI j) / 8 * 8)) + 8) - 1) - ((nI j) / 8))]) rfl ?_
        refine k_iinc (i := 4) (v := (nI (j + 1))) dX12_bits_62 (rfl : 62 + 3 = 65) rfl (Nat.le_of_ble_eq_true rfl) (nI_1 _) ?_
        refine k_ls (ls2 := [.ref 116, .int a, .long (s ||| 0), .retAddr 0, .int (nI (j + 1)), .int ((((8 * ((nI j) - (nI j) / 8 * 8)) + 8) - 1) - ((nI j) / 8))]) rfl ?_
        refine k_goto (tgt := 5) dX12_bits_65 (by decide) ?_
        rw [biL, if_neg (show ¬ (a = 0) from b13), if_pos (show (f_X12_isTree (x.2 0) (nI j)) = 0 from b49)] at hx
        exact ih (j + 1) (s ||| 0) _ (by omega) hx
      · refine k_lconst (v := 1) dX12_bits_52 (rfl : 52 + 1 = 53) (by decide) ?_
        refine k_iload (i := 5) dX12_bits_53 (rfl : 53 + 2 = 55) rfl ?_
        refine k_lshl dX12_bits_55 (rfl : 55 + 1 = 56) ?_
        refine k_goto (tgt := 60) dX12_bits_56 (by decide) ?_
        refine k_lor dX12_bits_60 (rfl : 60 + 1 = 61) ?_
        refine k_lstore_n (i := 2) dX12_bits_61 (rfl : 61 + 1 = 62) rfl (Nat.le_of_ble_eq_true rfl) ?_
        refine k_ls (ls2 := [.ref 116, .int a, .long (s ||| (1 <<< (Int32.toInt64 ((((8 * ((nI j) - (nI j) / 8 * 8)) + 8) - 1) - ((nI j) / 8)) &&& 63))), .retAddr 0, .int (nI j), .int ((((8 * ((nI j) - (nI j) / 8 * 8)) + 8) - 1) - ((nI j) / 8))]) rfl ?_
        refine k_iinc (i := 4) (v := (nI (j + 1))) dX12_bits_62 (rfl : 62 + 3 = 65) rfl (Nat.le_of_ble_eq_true rfl) (nI_1 _) ?_
        refine k_ls (ls2 := [.ref 116, .int a, .long (s ||| (1 <<< (Int32.toInt64 ((((8 * ((nI j) - (nI j) / 8 * 8)) + 8) - 1) - ((nI j) / 8)) &&& 63))), .retAddr 0, .int (nI (j + 1)), .int ((((8 * ((nI j) - (nI j) / 8 * 8)) + 8) - 1) - ((nI j) / 8))]) rfl ?_
        refine k_goto (tgt := 5) dX12_bits_65 (by decide) ?_
        rw [biL, if_neg (show ¬ (a = 0) from b13), if_neg (show ¬ ((f_X12_isTree (x.2 0) (nI j)) = 0) from b49)] at hx
        exact ih (j + 1) (s ||| (1 <<< (Int32.toInt64 ((((8 * ((nI j) - (nI j) / 8 * 8)) + 8) - 1) - ((nI j) / 8)) &&& 63))) _ (by omega) hx
def f_X12_bits (v : Nat → Int32) (a1 : Int32) : Int64 := (biL v a1 64 0 0)
set_option maxRecDepth 100000 in
set_option maxHeartbeats 4000000 in
theorem m_X12_bits {x : kY} {a9 : kH} {z9 : kE × kE} {a1 : Int32} : kMet kX12_bits false 0 0 [.ref 116, .int a1] (kTp a9 (kHr x z9)) 130 (kRt (some (.long (f_X12_bits (x.2 0) a1))) (kTp a9 (kHr x z9)) 130) := by
  refine kMet.in (by decide) rfl rfl _ rfl ?_
  refine k_lconst (v := 0) dX12_bits_0 (rfl : 0 + 1 = 1) (by decide) ?_
  refine k_lstore_n (i := 2) dX12_bits_1 (rfl : 1 + 1 = 2) rfl (Nat.le_of_ble_eq_true rfl) ?_
  refine k_ls (ls2 := [.ref 116, .int a1, .long 0, .retAddr 0, .retAddr 0, .retAddr 0]) rfl ?_
  refine k_iconst (v := 0) dX12_bits_2 (rfl : 2 + 1 = 3) (by decide) ?_
  refine k_istore (i := 4) dX12_bits_3 (rfl : 3 + 2 = 5) (Nat.le_of_ble_eq_true rfl) ?_
  refine k_ls (ls2 := [.ref 116, .int a1, .long 0, .retAddr 0, .int 0, .retAddr 0]) rfl ?_
  refine lbiL (a := a1) 64 0 0 _ (by omega) (fun z4 z5 => ?_)
  generalize hw5 : (biL (x.2 0) a1 64 0 0) = w5
  refine k_lload_n (i := 2) dX12_bits_68 (rfl : 68 + 1 = 69) rfl rfl ?_
  refine k_lret rfl dX12_bits_69 (Nat.le_of_ble_eq_true rfl) (Nat.le_of_ble_eq_true rfl) ?_
  subst hw5
  exact kRt_of rfl rfl
def g_X12_begins (x : kY)  : kY := (yR (yS x 0 0) 1 (x.2 0))
set_option maxRecDepth 100000 in
set_option maxHeartbeats 4000000 in
theorem m_X12_begins {x : kY} {a9 : kH} {z9 : kE × kE} : kMet kX12_begins false 0 0 [.ref 116] (kTp a9 (kHr x z9)) 130 (kRt (none) (kTp a9 (kHr (g_X12_begins x ) z9)) 130) := by
  refine kMet.in (by decide) rfl rfl _ rfl ?_
  refine k_aload_n (i := 0) dX12_begins_0 (rfl : 0 + 1 = 1) rfl rfl ?_
  refine k_iconst (v := 0) dX12_begins_1 (rfl : 1 + 1 = 2) (by decide) ?_
  refine k_put 12 0 fp_X12_50 dX12_begins_2 (rfl : 2 + 3 = 5) (Nat.le_of_ble_eq_true rfl) rfl (Nat.le_of_ble_eq_true rfl) rfl rfl ?_
  refine kf_Y0 (v := 0) rfl ?_
  refine k_aload_n (i := 0) dX12_begins_5 (rfl : 5 + 1 = 6) rfl rfl ?_
  refine k_get 12 8 fg_X12_20 dX12_begins_6 (rfl : 6 + 3 = 9) (Nat.le_of_ble_eq_true rfl) rfl rfl ?_
  refine k_aload_n (i := 0) dX12_begins_9 (rfl : 9 + 1 = 10) rfl rfl ?_
  refine k_get 12 7 fg_X12_16 dX12_begins_10 (rfl : 10 + 3 = 13) (Nat.le_of_ble_eq_true rfl) rfl rfl ?_
  refine k_callSv2 cv_X12_63 ⟨Nat.le_of_ble_eq_true rfl, Nat.le_of_ble_eq_true rfl⟩ (m_X12_lays (Nat.le_of_ble_eq_true rfl) (Nat.le_of_ble_eq_true rfl) (by decide) rfl rfl) dX12_begins_13 (rfl : 13 + 3 = 16) rfl ⟨Nat.le_of_ble_eq_true rfl, Nat.le_of_ble_eq_true rfl⟩ ?_
  refine kf_Z1 (f := (x.2 0)) rfl ?_
  refine k_vret rfl dX12_begins_16 (Nat.le_of_ble_eq_true rfl) (Nat.le_of_ble_eq_true rfl) ?_
  exact kRt_of rfl rfl
theorem in_ch {c j : Nat} {v : Int32} (hc : c < 8) (hj : j < 116) (e : v = nI c) : vp_in (v * 116 + nI j) 928 := by
  subst e
  have h2 : ∀ c, c < 8 → nI c * 116 = nI (c * 116) := by decide
  rw [h2 c hc, nI_add]
  exact vp_in_nI (by omega) (by omega)
theorem ch_dn {v : Int32} (h : ∃ c, c ≤ 8 ∧ v = nI c) (h8 : v = 8) : (v - 1) = nI 7 := by
  subst h8
  decide
theorem ch_lt {v : Int32} (h : ∃ c, c ≤ 8 ∧ v = nI c) (h8 : ¬ v = 8) : ∃ c, c < 8 ∧ v = nI c := by
  obtain ⟨c, hc, rfl⟩ := h
  refine ⟨c, ?_, rfl⟩
  rcases Nat.lt_or_ge c 8 with q | q
  · exact q
  · exact absurd (show nI c = 8 by rw [show c = 8 by omega]; rfl) h8
def enS : Nat → kY → Nat → kY
  | 0, x, j => x
  | k + 1, x, j => (enS k (yR x 3 (upd (x.2 3) (Int32.toNatClampNeg (nI j)) ((x.2 3) (Int32.toNatClampNeg ((nI j) + 116))))) (j + 1))
set_option maxRecDepth 100000 in
set_option maxHeartbeats 4000000 in
theorem lenS {a9 : kH} {z9 : kE × kE} {Q : kQ} {a : Int32}  : ∀ (k : Nat) (x : kY) (j : Nat), j + k = 812 → (∀ (z2 : Value), kEv kX12_ends (kRm kX12_ends 0 0) (kFm false 0 0 (Q)) false 59 [.ref 116, .int a, z2] [] (kTp a9 (kHr (enS k x j) z9)) 130 0 0) → kEv kX12_ends (kRm kX12_ends 0 0) (kFm false 0 0 (Q)) false 31 [.ref 116, .int a, .int (nI j)] [] (kTp a9 (kHr x z9)) 130 0 0 := by
  intro k
  induction k with
  | zero =>
    intro x j hj hx
    refine k_iload_n (i := 2) dX12_ends_31 (rfl : 31 + 1 = 32) rfl rfl ?_
    refine k_sipush (v := 812) dX12_ends_32 (rfl : 32 + 3 = 35) (by decide) ?_
    refine k_icmp_ge (tgt := 59) dX12_ends_35 (rfl : 35 + 3 = 38) (by decide) (fun b35 => ?_) (fun b35 => by exact absurd (nI_le (a := 812) (b := j) (by omega) (by omega)) b35)
    rw [enS] at hx
    exact hx _
  | succ k ih =>
    intro x j hj hx
    refine k_iload_n (i := 2) dX12_ends_31 (rfl : 31 + 1 = 32) rfl rfl ?_
    refine k_sipush (v := 812) dX12_ends_32 (rfl : 32 + 3 = 35) (by decide) ?_
    refine k_icmp_ge (tgt := 59) dX12_ends_35 (rfl : 35 + 3 = 38) (by decide) (fun b35 => by exact absurd b35 (nI_ge (a := j) (b := 812) (by omega) (by decide))) (fun b35 => ?_)
    refine k_aload_n (i := 0) dX12_ends_38 (rfl : 38 + 1 = 39) rfl rfl ?_
    refine k_get 12 10 fg_X12_26 dX12_ends_39 (rfl : 39 + 3 = 42) (Nat.le_of_ble_eq_true rfl) rfl rfl ?_
    refine k_iload_n (i := 2) dX12_ends_42 (rfl : 42 + 1 = 43) rfl rfl ?_
    refine k_aload_n (i := 0) dX12_ends_43 (rfl : 43 + 1 = 44) rfl rfl ?_
    refine k_get 12 10 fg_X12_26 dX12_ends_44 (rfl : 44 + 3 = 47) (Nat.le_of_ble_eq_true rfl) rfl rfl ?_
    refine k_iload_n (i := 2) dX12_ends_47 (rfl : 47 + 1 = 48) rfl rfl ?_
    refine k_bipush (v := 116) dX12_ends_48 (rfl : 48 + 2 = 50) (by decide) ?_
    refine k_iadd dX12_ends_50 (rfl : 50 + 1 = 51) ?_
    refine k_iald dX12_ends_51 (rfl : 51 + 1 = 52) (Nat.le_of_ble_eq_true rfl) rfl (in_add (m := 116) (by omega) (by decide)) ?_
    refine k_iast dX12_ends_52 (rfl : 52 + 1 = 53) (Nat.le_of_ble_eq_true rfl) rfl (vp_in_nI (by omega) (by omega)) ?_
    refine kf_Z3 (f := (upd (x.2 3) (Int32.toNatClampNeg (nI j)) ((x.2 3) (Int32.toNatClampNeg ((nI j) + 116))))) rfl ?_
    refine k_iinc (i := 2) (v := (nI (j + 1))) dX12_ends_53 (rfl : 53 + 3 = 56) rfl (Nat.le_of_ble_eq_true rfl) (nI_1 _) ?_
    refine k_ls (ls2 := [.ref 116, .int a, .int (nI (j + 1))]) rfl ?_
    refine k_goto (tgt := 31) dX12_ends_56 (by decide) ?_
    rw [enS] at hx
    exact ih (yR x 3 (upd (x.2 3) (Int32.toNatClampNeg (nI j)) ((x.2 3) (Int32.toNatClampNeg ((nI j) + 116))))) (j + 1) (by omega) hx
def enC : Nat → kY → Nat → kY
  | 0, x, j => x
  | k + 1, x, j => (enC k (yR x 3 (upd (x.2 3) (Int32.toNatClampNeg (((x.1 1) * 116) + (nI j))) ((x.2 1) (Int32.toNatClampNeg (nI j))))) (j + 1))
set_option maxRecDepth 100000 in
set_option maxHeartbeats 4000000 in
theorem lenC {a9 : kH} {z9 : kE × kE} {Q : kQ} {a : Int32} {c : Nat}  (hc : c < 8) : ∀ (k : Nat) (x : kY) (j : Nat), j + k = 116 → x.1 1 = nI c → (∀ (z2 : Value), kEv kX12_ends (kRm kX12_ends 0 0) (kFm false 0 0 (Q)) false 103 [.ref 116, .int a, z2] [] (kTp a9 (kHr (enC k x j) z9)) 130 0 0) → kEv kX12_ends (kRm kX12_ends 0 0) (kFm false 0 0 (Q)) false 71 [.ref 116, .int a, .int (nI j)] [] (kTp a9 (kHr x z9)) 130 0 0 := by
  intro k
  induction k with
  | zero =>
    intro x j hj en hx
    refine k_iload_n (i := 2) dX12_ends_71 (rfl : 71 + 1 = 72) rfl rfl ?_
    refine k_bipush (v := 116) dX12_ends_72 (rfl : 72 + 2 = 74) (by decide) ?_
    refine k_icmp_ge (tgt := 103) dX12_ends_74 (rfl : 74 + 3 = 77) (by decide) (fun b74 => ?_) (fun b74 => by exact absurd (nI_le (a := 116) (b := j) (by omega) (by omega)) b74)
    rw [enC] at hx
    exact hx _
  | succ k ih =>
    intro x j hj en hx
    refine k_iload_n (i := 2) dX12_ends_71 (rfl : 71 + 1 = 72) rfl rfl ?_
    refine k_bipush (v := 116) dX12_ends_72 (rfl : 72 + 2 = 74) (by decide) ?_
    refine k_icmp_ge (tgt := 103) dX12_ends_74 (rfl : 74 + 3 = 77) (by decide) (fun b74 => by exact absurd b74 (nI_ge (a := j) (b := 116) (by omega) (by decide))) (fun b74 => ?_)
    refine k_aload_n (i := 0) dX12_ends_77 (rfl : 77 + 1 = 78) rfl rfl ?_
    refine k_get 12 10 fg_X12_26 dX12_ends_78 (rfl : 78 + 3 = 81) (Nat.le_of_ble_eq_true rfl) rfl rfl ?_
    refine k_aload_n (i := 0) dX12_ends_81 (rfl : 81 + 1 = 82) rfl rfl ?_
    refine k_get 12 1 fg_X12_67 dX12_ends_82 (rfl : 82 + 3 = 85) (Nat.le_of_ble_eq_true rfl) rfl rfl ?_
    refine k_bipush (v := 116) dX12_ends_85 (rfl : 85 + 2 = 87) (by decide) ?_
    refine k_imul dX12_ends_87 (rfl : 87 + 1 = 88) ?_
    refine k_iload_n (i := 2) dX12_ends_88 (rfl : 88 + 1 = 89) rfl rfl ?_
    refine k_iadd dX12_ends_89 (rfl : 89 + 1 = 90) ?_
    refine k_aload_n (i := 0) dX12_ends_90 (rfl : 90 + 1 = 91) rfl rfl ?_
    refine k_get 12 8 fg_X12_20 dX12_ends_91 (rfl : 91 + 3 = 94) (Nat.le_of_ble_eq_true rfl) rfl rfl ?_
    refine k_iload_n (i := 2) dX12_ends_94 (rfl : 94 + 1 = 95) rfl rfl ?_
    refine k_iald dX12_ends_95 (rfl : 95 + 1 = 96) (Nat.le_of_ble_eq_true rfl) rfl (vp_in_nI (by omega) (by omega)) ?_
    refine k_iast dX12_ends_96 (rfl : 96 + 1 = 97) (Nat.le_of_ble_eq_true rfl) rfl (in_ch hc (by omega) en) ?_
    refine kf_Z3 (f := (upd (x.2 3) (Int32.toNatClampNeg (((x.1 1) * 116) + (nI j))) ((x.2 1) (Int32.toNatClampNeg (nI j))))) rfl ?_
    refine k_iinc (i := 2) (v := (nI (j + 1))) dX12_ends_97 (rfl : 97 + 3 = 100) rfl (Nat.le_of_ble_eq_true rfl) (nI_1 _) ?_
    refine k_ls (ls2 := [.ref 116, .int a, .int (nI (j + 1))]) rfl ?_
    refine k_goto (tgt := 71) dX12_ends_100 (by decide) ?_
    rw [enC] at hx
    exact ih (yR x 3 (upd (x.2 3) (Int32.toNatClampNeg (((x.1 1) * 116) + (nI j))) ((x.2 1) (Int32.toNatClampNeg (nI j))))) (j + 1) (by omega) en hx
theorem enS_1 {k : Nat} : ∀ {x : kY} {j : Nat}, (enS k x j).1 = x.1 := by
  induction k with
  | zero => intro x j; rfl
  | succ k ih =>
    intro x j
    rw [enS, ih]
    rfl
def f_X12_ends (x : kY) (a1 : Int32) : Int32 := if (x.1 0) = 0 then (if (x.1 1) = 8 then a1 else a1) else 0
def g_X12_ends (x : kY) (a1 : Int32) : kY := if (x.1 0) = 0 then (if (x.1 1) = 8 then (yS (enC 116 (yS (enS 812 x 0) 1 (((enS 812 x 0).1 1) - 1)) 0) 1 (((enC 116 (yS (enS 812 x 0) 1 (((enS 812 x 0).1 1) - 1)) 0).1 1) + 1)) else (yS (enC 116 x 0) 1 (((enC 116 x 0).1 1) + 1))) else (yR x 0 (x.2 1))
set_option maxRecDepth 100000 in
set_option maxHeartbeats 4000000 in
theorem m_X12_ends {x : kY} {a9 : kH} {z9 : kE × kE} {a1 : Int32} (hc : ∃ c, c ≤ 8 ∧ x.1 1 = nI c) : kMet kX12_ends false 0 0 [.ref 116, .int a1] (kTp a9 (kHr x z9)) 130 (kRt (some (.int (f_X12_ends x a1))) (kTp a9 (kHr (g_X12_ends x a1) z9)) 130) := by
  refine kMet.in (by decide) rfl rfl _ rfl ?_
  refine k_aload_n (i := 0) dX12_ends_0 (rfl : 0 + 1 = 1) rfl rfl ?_
  refine k_get 12 0 fg_X12_50 dX12_ends_1 (rfl : 1 + 3 = 4) (Nat.le_of_ble_eq_true rfl) rfl rfl ?_
  refine k_if_eq (tgt := 20) dX12_ends_4 (rfl : 4 + 3 = 7) (by decide) (fun b4 => ?_) (fun b4 => ?_)
  · refine k_aload_n (i := 0) dX12_ends_20 (rfl : 20 + 1 = 21) rfl rfl ?_
    refine k_get 12 1 fg_X12_67 dX12_ends_21 (rfl : 21 + 3 = 24) (Nat.le_of_ble_eq_true rfl) rfl rfl ?_
    refine k_bipush (v := 8) dX12_ends_24 (rfl : 24 + 2 = 26) (by decide) ?_
    refine k_icmp_ne (tgt := 69) dX12_ends_26 (rfl : 26 + 3 = 29) (by decide) (fun b26 => ?_) (fun b26 => ?_)
    · refine k_iconst (v := 0) dX12_ends_69 (rfl : 69 + 1 = 70) (by decide) ?_
      refine k_istore_n (i := 2) dX12_ends_70 (rfl : 70 + 1 = 71) rfl (Nat.le_of_ble_eq_true rfl) ?_
      refine k_ls (ls2 := [.ref 116, .int a1, .int 0]) rfl ?_
      obtain ⟨c9, q9⟩ := ch_lt hc b26
      refine lenC q9.1 116 x 0 (by omega) q9.2 (fun z2 => ?_)
      generalize hw71 : (enC 116 x 0) = w71
      refine k_aload_n (i := 0) dX12_ends_103 (rfl : 103 + 1 = 104) rfl rfl ?_
      refine k_dup dX12_ends_104 (rfl : 104 + 1 = 105) rfl ?_
      refine k_get 12 1 fg_X12_67 dX12_ends_105 (rfl : 105 + 3 = 108) (Nat.le_of_ble_eq_true rfl) rfl rfl ?_
      refine k_iconst (v := 1) dX12_ends_108 (rfl : 108 + 1 = 109) (by decide) ?_
      refine k_iadd dX12_ends_109 (rfl : 109 + 1 = 110) ?_
      refine k_put 12 1 fp_X12_67 dX12_ends_110 (rfl : 110 + 3 = 113) (Nat.le_of_ble_eq_true rfl) rfl (Nat.le_of_ble_eq_true rfl) rfl rfl ?_
      refine kf_Y1 (v := ((w71.1 1) + 1)) rfl ?_
      refine k_iload_n (i := 1) dX12_ends_113 (rfl : 113 + 1 = 114) rfl rfl ?_
      refine k_iret rfl rfl dX12_ends_114 (Nat.le_of_ble_eq_true rfl) (Nat.le_of_ble_eq_true rfl) ?_
      subst hw71
      exact kRt_of (congrArg (fun z => some (Value.int z)) (Eq.symm (Eq.trans (if_pos (show (x.1 0) = 0 from b4)) (if_neg (show ¬ ((x.1 1) = 8) from b26))))) (congrArg (fun z => kTp a9 (kHr z z9)) (Eq.symm (Eq.trans (if_pos (show (x.1 0) = 0 from b4)) (if_neg (show ¬ ((x.1 1) = 8) from b26)))))
    · refine k_iconst (v := 0) dX12_ends_29 (rfl : 29 + 1 = 30) (by decide) ?_
      refine k_istore_n (i := 2) dX12_ends_30 (rfl : 30 + 1 = 31) rfl (Nat.le_of_ble_eq_true rfl) ?_
      refine k_ls (ls2 := [.ref 116, .int a1, .int 0]) rfl ?_
      refine lenS 812 x 0 (by omega) (fun z2 => ?_)
      generalize hw31 : (enS 812 x 0) = w31
      refine k_aload_n (i := 0) dX12_ends_59 (rfl : 59 + 1 = 60) rfl rfl ?_
      refine k_dup dX12_ends_60 (rfl : 60 + 1 = 61) rfl ?_
      refine k_get 12 1 fg_X12_67 dX12_ends_61 (rfl : 61 + 3 = 64) (Nat.le_of_ble_eq_true rfl) rfl rfl ?_
      refine k_iconst (v := 1) dX12_ends_64 (rfl : 64 + 1 = 65) (by decide) ?_
      refine k_isub dX12_ends_65 (rfl : 65 + 1 = 66) ?_
      refine k_put 12 1 fp_X12_67 dX12_ends_66 (rfl : 66 + 3 = 69) (Nat.le_of_ble_eq_true rfl) rfl (Nat.le_of_ble_eq_true rfl) rfl rfl ?_
      refine kf_Y1 (v := ((w31.1 1) - 1)) rfl ?_
      refine k_iconst (v := 0) dX12_ends_69 (rfl : 69 + 1 = 70) (by decide) ?_
      refine k_istore_n (i := 2) dX12_ends_70 (rfl : 70 + 1 = 71) rfl (Nat.le_of_ble_eq_true rfl) ?_
      refine k_ls (ls2 := [.ref 116, .int a1, .int 0]) rfl ?_
      have q9 : (7 : Nat) < 8 ∧ (yS w31 1 (w31.1 1 - 1)).1 1 = nI 7 := ⟨by decide, by show upd w31.1 1 (w31.1 1 - 1) 1 = nI 7; rw [pk_us, ← hw31, enS_1]; exact ch_dn hc b26⟩
      refine lenC q9.1 116 (yS w31 1 ((w31.1 1) - 1)) 0 (by omega) q9.2 (fun z2 => ?_)
      generalize hw71 : (enC 116 (yS w31 1 ((w31.1 1) - 1)) 0) = w71
      refine k_aload_n (i := 0) dX12_ends_103 (rfl : 103 + 1 = 104) rfl rfl ?_
      refine k_dup dX12_ends_104 (rfl : 104 + 1 = 105) rfl ?_
      refine k_get 12 1 fg_X12_67 dX12_ends_105 (rfl : 105 + 3 = 108) (Nat.le_of_ble_eq_true rfl) rfl rfl ?_
      refine k_iconst (v := 1) dX12_ends_108 (rfl : 108 + 1 = 109) (by decide) ?_
      refine k_iadd dX12_ends_109 (rfl : 109 + 1 = 110) ?_
      refine k_put 12 1 fp_X12_67 dX12_ends_110 (rfl : 110 + 3 = 113) (Nat.le_of_ble_eq_true rfl) rfl (Nat.le_of_ble_eq_true rfl) rfl rfl ?_
      refine kf_Y1 (v := ((w71.1 1) + 1)) rfl ?_
      refine k_iload_n (i := 1) dX12_ends_113 (rfl : 113 + 1 = 114) rfl rfl ?_
      refine k_iret rfl rfl dX12_ends_114 (Nat.le_of_ble_eq_true rfl) (Nat.le_of_ble_eq_true rfl) ?_
      subst hw71
      subst hw31
      exact kRt_of (congrArg (fun z => some (Value.int z)) (Eq.symm (Eq.trans (if_pos (show (x.1 0) = 0 from b4)) (if_pos (show (x.1 1) = 8 from b26))))) (congrArg (fun z => kTp a9 (kHr z z9)) (Eq.symm (Eq.trans (if_pos (show (x.1 0) = 0 from b4)) (if_pos (show (x.1 1) = 8 from b26)))))
  · refine k_aload_n (i := 0) dX12_ends_7 (rfl : 7 + 1 = 8) rfl rfl ?_
    refine k_get 12 7 fg_X12_16 dX12_ends_8 (rfl : 8 + 3 = 11) (Nat.le_of_ble_eq_true rfl) rfl rfl ?_
    refine k_aload_n (i := 0) dX12_ends_11 (rfl : 11 + 1 = 12) rfl rfl ?_
    refine k_get 12 8 fg_X12_20 dX12_ends_12 (rfl : 12 + 3 = 15) (Nat.le_of_ble_eq_true rfl) rfl rfl ?_
    refine k_callSv2 cv_X12_63 ⟨Nat.le_of_ble_eq_true rfl, Nat.le_of_ble_eq_true rfl⟩ (m_X12_lays (Nat.le_of_ble_eq_true rfl) (Nat.le_of_ble_eq_true rfl) (by decide) rfl rfl) dX12_ends_15 (rfl : 15 + 3 = 18) rfl ⟨Nat.le_of_ble_eq_true rfl, Nat.le_of_ble_eq_true rfl⟩ ?_
    refine kf_Z0 (f := (x.2 1)) rfl ?_
    refine k_iconst (v := 0) dX12_ends_18 (rfl : 18 + 1 = 19) (by decide) ?_
    refine k_iret rfl rfl dX12_ends_19 (Nat.le_of_ble_eq_true rfl) (Nat.le_of_ble_eq_true rfl) ?_
    exact kRt_of (congrArg (fun z => some (Value.int z)) (Eq.symm (if_neg (show ¬ ((x.1 0) = 0) from b4)))) (congrArg (fun z => kTp a9 (kHr z z9)) (Eq.symm (if_neg (show ¬ ((x.1 0) = 0) from b4))))
/-- the next cell, as numbers -/
def nx (n w : Nat) : Nat := 8 * ((n / 8 + (if 1 ≤ w ∧ w ≤ 3 then 1 else if 5 ≤ w then 7 else 0)) % 8) + (n % 8 + (if w = 0 ∨ w = 1 ∨ w = 7 then 1 else if 3 ≤ w ∧ w ≤ 5 then 7 else 0)) % 8
theorem nx_lt {n w : Nat} : nx n w < 64 := by
  unfold nx
  omega
theorem next_nx {n w : Nat} (hn : n < 64) (hw : w < 8) : f_X12_next (nI n) (nI w) = nI (nx n w) := by
  have h : ∀ w, w < 8 → ∀ n, n < 64 → f_X12_next (nI n) (nI w) = nI (nx n w) := by decide +kernel
  exact h w hw n hn
theorem next_ok {a w : Int32} (ha : kC64 a) (hw : kP8 w) : kC64 (f_X12_next a w) := by
  obtain ⟨n, hn, rfl⟩ := ha
  obtain ⟨k, hk, rfl⟩ := hw
  exact ⟨nx n k, nx_lt, next_nx hn hk⟩
theorem fits_b {v : Int32} (h : v = 0 ∨ v = 1) : fits .boolean (.int v) = true := by rcases h with h | h <;> rw [h] <;> rfl
theorem isTree_b {v : Nat → Int32} {a : Int32} : f_X12_isTree v a = 0 ∨ f_X12_isTree v a = 1 := by
  unfold f_X12_isTree
  split
  · exact Or.inr rfl
  · exact Or.inl rfl
/-- the flight has at most m steps -/
def kFy (x : kY) (m : Nat) : Prop := ∃ n, n ≤ m ∧ x.1 7 = nI n ∧ kC64 (x.2 4 n)
theorem fy_in {x : kY} {m : Nat} (h : kFy x m) (hm : m < 40) : vp_in (x.1 7) 40 := by
  obtain ⟨n, hn, e, -⟩ := h
  rw [e]
  exact vp_in_nI (by omega) (by omega)
theorem fy_c {x : kY} {m : Nat} (h : kFy x m) (hm : m < 40) : kC64 (x.2 4 (Int32.toNatClampNeg (x.1 7))) := by
  obtain ⟨n, hn, e, hc⟩ := h
  rw [e, nI_clamp (by omega)]
  exact hc
theorem fy_up {x : kY} {m : Nat} (h : kFy x m) (hm : m < 39) : vp_in (x.1 7 + 1) 40 := by
  obtain ⟨n, hn, e, -⟩ := h
  rw [e, nI_1]
  exact vp_in_nI (by omega) (by omega)
def f_X12_enters (x : kY) (a1 : Int32) : Int32 := if (f_X12_isTree (x.2 0) (f_X12_next ((x.2 4) (Int32.toNatClampNeg (x.1 7))) a1)) = 0 then 1 else 0
def g_X12_enters (x : kY) (a1 : Int32) : kY := if (f_X12_isTree (x.2 0) (f_X12_next ((x.2 4) (Int32.toNatClampNeg (x.1 7))) a1)) = 0 then (yR (yS (yS x 8 (f_X12_isTree (x.2 0) (f_X12_next ((x.2 4) (Int32.toNatClampNeg (x.1 7))) a1))) 7 ((x.1 7) + 1)) 4 (upd (x.2 4) (Int32.toNatClampNeg ((x.1 7) + 1)) (f_X12_next ((x.2 4) (Int32.toNatClampNeg (x.1 7))) a1))) else (yS x 8 (f_X12_isTree (x.2 0) (f_X12_next ((x.2 4) (Int32.toNatClampNeg (x.1 7))) a1)))
set_option maxRecDepth 100000 in
set_option maxHeartbeats 4000000 in
theorem m_X12_enters {x : kY} {a9 : kH} {z9 : kE × kE} {a1 : Int32} {m : Nat} (hf : kFy x m) (hm : m < 39) (hw : kP8 a1) : kMet kX12_enters false 0 0 [.ref 116, .int a1] (kTp a9 (kHr x z9)) 130 (kRt (some (.int (f_X12_enters x a1))) (kTp a9 (kHr (g_X12_enters x a1) z9)) 130) := by
  refine kMet.in (by decide) rfl rfl _ rfl ?_
  refine k_aload_n (i := 0) dX12_enters_0 (rfl : 0 + 1 = 1) rfl rfl ?_
  refine k_get 12 11 fg_X12_29 dX12_enters_1 (rfl : 1 + 3 = 4) (Nat.le_of_ble_eq_true rfl) rfl rfl ?_
  refine k_aload_n (i := 0) dX12_enters_4 (rfl : 4 + 1 = 5) rfl rfl ?_
  refine k_get 12 13 fg_X12_146 dX12_enters_5 (rfl : 5 + 3 = 8) (Nat.le_of_ble_eq_true rfl) rfl rfl ?_
  refine k_iald dX12_enters_8 (rfl : 8 + 1 = 9) (Nat.le_of_ble_eq_true rfl) rfl (fy_in hf (by omega)) ?_
  refine k_iload_n (i := 1) dX12_enters_9 (rfl : 9 + 1 = 10) rfl rfl ?_
  refine k_callSd2 cv_X12_121 ⟨Nat.le_of_ble_eq_true rfl, Nat.le_of_ble_eq_true rfl⟩ (m_X12_next) dX12_enters_10 (rfl : 10 + 3 = 13) rfl ⟨Nat.le_of_ble_eq_true rfl, Nat.le_of_ble_eq_true rfl⟩ ?_
  refine k_istore_n (i := 2) dX12_enters_13 (rfl : 13 + 1 = 14) rfl (Nat.le_of_ble_eq_true rfl) ?_
  refine k_ls (ls2 := [.ref 116, .int a1, .int (f_X12_next ((x.2 4) (Int32.toNatClampNeg (x.1 7))) a1)]) rfl ?_
  refine k_aload_n (i := 0) dX12_enters_14 (rfl : 14 + 1 = 15) rfl rfl ?_
  refine k_aload_n (i := 0) dX12_enters_15 (rfl : 15 + 1 = 16) rfl rfl ?_
  refine k_iload_n (i := 2) dX12_enters_16 (rfl : 16 + 1 = 17) rfl rfl ?_
  refine k_callVd1 cv_X12_106 ⟨Nat.le_of_ble_eq_true rfl, Nat.le_of_ble_eq_true rfl⟩ (m_X12_isTree (next_ok (fy_c hf (by omega)) hw)) dX12_enters_17 (rfl : 17 + 3 = 20) (Nat.le_of_ble_eq_true rfl) rfl rfl rfl ⟨Nat.le_of_ble_eq_true rfl, Nat.le_of_ble_eq_true rfl⟩ ?_
  refine k_put 12 14 fp_X12_149 dX12_enters_20 (rfl : 20 + 3 = 23) (Nat.le_of_ble_eq_true rfl) rfl (Nat.le_of_ble_eq_true rfl) (nar_b isTree_b) (fits_b isTree_b) ?_
  refine kf_Y8 (v := (f_X12_isTree (x.2 0) (f_X12_next ((x.2 4) (Int32.toNatClampNeg (x.1 7))) a1))) rfl ?_
  refine k_aload_n (i := 0) dX12_enters_23 (rfl : 23 + 1 = 24) rfl rfl ?_
  refine k_get 12 14 fg_X12_149 dX12_enters_24 (rfl : 24 + 3 = 27) (Nat.le_of_ble_eq_true rfl) rfl rfl ?_
  refine k_if_eq (tgt := 32) dX12_enters_27 (rfl : 27 + 3 = 30) (by decide) (fun b27 => ?_) (fun b27 => ?_)
  · refine k_aload_n (i := 0) dX12_enters_32 (rfl : 32 + 1 = 33) rfl rfl ?_
    refine k_dup dX12_enters_33 (rfl : 33 + 1 = 34) rfl ?_
    refine k_get 12 13 fg_X12_146 dX12_enters_34 (rfl : 34 + 3 = 37) (Nat.le_of_ble_eq_true rfl) rfl rfl ?_
    refine k_iconst (v := 1) dX12_enters_37 (rfl : 37 + 1 = 38) (by decide) ?_
    refine k_iadd dX12_enters_38 (rfl : 38 + 1 = 39) ?_
    refine k_put 12 13 fp_X12_146 dX12_enters_39 (rfl : 39 + 3 = 42) (Nat.le_of_ble_eq_true rfl) rfl (Nat.le_of_ble_eq_true rfl) rfl rfl ?_
    refine kf_Y7 (v := ((x.1 7) + 1)) rfl ?_
    refine k_aload_n (i := 0) dX12_enters_42 (rfl : 42 + 1 = 43) rfl rfl ?_
    refine k_get 12 11 fg_X12_29 dX12_enters_43 (rfl : 43 + 3 = 46) (Nat.le_of_ble_eq_true rfl) rfl rfl ?_
    refine k_aload_n (i := 0) dX12_enters_46 (rfl : 46 + 1 = 47) rfl rfl ?_
    refine k_get 12 13 fg_X12_146 dX12_enters_47 (rfl : 47 + 3 = 50) (Nat.le_of_ble_eq_true rfl) rfl rfl ?_
    refine k_iload_n (i := 2) dX12_enters_50 (rfl : 50 + 1 = 51) rfl rfl ?_
    refine k_iast dX12_enters_51 (rfl : 51 + 1 = 52) (Nat.le_of_ble_eq_true rfl) rfl (fy_up hf (by omega)) ?_
    refine kf_Z4 (f := (upd (x.2 4) (Int32.toNatClampNeg ((x.1 7) + 1)) (f_X12_next ((x.2 4) (Int32.toNatClampNeg (x.1 7))) a1))) rfl ?_
    refine k_iconst (v := 1) dX12_enters_52 (rfl : 52 + 1 = 53) (by decide) ?_
    refine k_iret rfl rfl dX12_enters_53 (Nat.le_of_ble_eq_true rfl) (Nat.le_of_ble_eq_true rfl) ?_
    exact kRt_of (congrArg (fun z => some (Value.int z)) (Eq.symm (if_pos (show (f_X12_isTree (x.2 0) (f_X12_next ((x.2 4) (Int32.toNatClampNeg (x.1 7))) a1)) = 0 from b27)))) (congrArg (fun z => kTp a9 (kHr z z9)) (Eq.symm (if_pos (show (f_X12_isTree (x.2 0) (f_X12_next ((x.2 4) (Int32.toNatClampNeg (x.1 7))) a1)) = 0 from b27))))
  · refine k_iconst (v := 0) dX12_enters_30 (rfl : 30 + 1 = 31) (by decide) ?_
    refine k_iret rfl rfl dX12_enters_31 (Nat.le_of_ble_eq_true rfl) (Nat.le_of_ble_eq_true rfl) ?_
    exact kRt_of (congrArg (fun z => some (Value.int z)) (Eq.symm (if_neg (show ¬ ((f_X12_isTree (x.2 0) (f_X12_next ((x.2 4) (Int32.toNatClampNeg (x.1 7))) a1)) = 0) from b27)))) (congrArg (fun z => kTp a9 (kHr z z9)) (Eq.symm (if_neg (show ¬ ((f_X12_isTree (x.2 0) (f_X12_next ((x.2 4) (Int32.toNatClampNeg (x.1 7))) a1)) = 0) from b27))))
theorem en_v {x : kY} {w : Int32} : (g_X12_enters x w).2 0 = x.2 0 := by
  unfold g_X12_enters
  split <;> rfl
theorem en_fy {x : kY} {w : Int32} {m : Nat} (hf : kFy x m) (hm : m < 39) (hw : kP8 w) (h : ¬ f_X12_enters x w = 0) : kFy (g_X12_enters x w) (m + 1) := by
  have hn := next_ok (fy_c hf (by omega)) hw
  obtain ⟨n, hn1, e, hc⟩ := hf
  unfold f_X12_enters at h
  unfold g_X12_enters
  split
  · rename_i h1
    refine ⟨n + 1, by omega, ?_, ?_⟩
    · show x.1 7 + 1 = nI (n + 1)
      rw [e, nI_1]
    · show kC64 (upd (x.2 4) (Int32.toNatClampNeg (x.1 7 + 1)) (f_X12_next ((x.2 4) (Int32.toNatClampNeg (x.1 7))) w) (n + 1))
      rw [e, nI_1, nI_clamp (show n + 1 < 2 ^ 31 by omega), pk_us]
      rw [e] at hn
      exact hn
  · rename_i h1
    rw [if_neg h1] at h
    exact absurd rfl h
def fiI (a : Int32) (w : Int32) : Nat → kY → Nat → (kY × Int32) ⊕ (kY)
  | 0, x, j => .inr x
  | k + 1, x, j => if (f_X12_enters x w) = 0 then (.inl ((g_X12_enters x w), ((g_X12_enters x w).1 7))) else (fiI a w k (g_X12_enters x w) (j + 1))
set_option maxRecDepth 100000 in
set_option maxHeartbeats 4000000 in
theorem lfiI {a9 : kH} {z9 : kE × kE} {Q : kQ} {a : Int32} {w : Int32} {i : Nat}  (hi : i < 8) (hw : kP8 w) (h4 : Int32.toNatClampNeg (f_X12_arm a) ≤ 4) : ∀ (k : Nat) (x : kY) (j : Nat), j + k = (Int32.toNatClampNeg (f_X12_arm a)) → kFy x (4 * i + min i 3 + j) → (∀ y, (fiI a w k x j) = .inl y → Q (.inl (some (.int y.2))) (kTp a9 (kHr y.1 z9)) 130) → (∀ y, (fiI a w k x j) = .inr y → ∀ (z4 : Value), kEv kX12_flies (kRm kX12_flies 0 0) (kFm false 0 0 (Q)) false 66 [.ref 116, .int a, .int w, .int (nI i), z4] [] (kTp a9 (kHr y z9)) 130 0 0) → kEv kX12_flies (kRm kX12_flies 0 0) (kFm false 0 0 (Q)) false 38 [.ref 116, .int a, .int w, .int (nI i), .int (nI j)] [] (kTp a9 (kHr x z9)) 130 0 0 := by
  intro k
  induction k with
  | zero =>
    intro x j hj hf hr hx
    refine k_iload (i := 4) dX12_flies_38 (rfl : 38 + 2 = 40) rfl ?_
    refine k_iload_n (i := 1) dX12_flies_40 (rfl : 40 + 1 = 41) rfl rfl ?_
    refine k_callSd1 cv_X12_153 ⟨Nat.le_of_ble_eq_true rfl, Nat.le_of_ble_eq_true rfl⟩ (m_X12_arm) dX12_flies_41 (rfl : 41 + 3 = 44) rfl ⟨Nat.le_of_ble_eq_true rfl, Nat.le_of_ble_eq_true rfl⟩ ?_
    refine k_icmp_ge (tgt := 66) dX12_flies_44 (rfl : 44 + 3 = 47) (by decide) (fun b44 => ?_) (fun b44 => by exact absurd (cl_le (by omega)) b44)
    exact hx _ (by rw [fiI]) _
  | succ k ih =>
    intro x j hj hf hr hx
    refine k_iload (i := 4) dX12_flies_38 (rfl : 38 + 2 = 40) rfl ?_
    refine k_iload_n (i := 1) dX12_flies_40 (rfl : 40 + 1 = 41) rfl rfl ?_
    refine k_callSd1 cv_X12_153 ⟨Nat.le_of_ble_eq_true rfl, Nat.le_of_ble_eq_true rfl⟩ (m_X12_arm) dX12_flies_41 (rfl : 41 + 3 = 44) rfl ⟨Nat.le_of_ble_eq_true rfl, Nat.le_of_ble_eq_true rfl⟩ ?_
    refine k_icmp_ge (tgt := 66) dX12_flies_44 (rfl : 44 + 3 = 47) (by decide) (fun b44 => by exact absurd b44 (cl_nle (by omega))) (fun b44 => ?_)
    refine k_aload_n (i := 0) dX12_flies_47 (rfl : 47 + 1 = 48) rfl rfl ?_
    refine k_iload_n (i := 2) dX12_flies_48 (rfl : 48 + 1 = 49) rfl rfl ?_
    refine k_callVd1 cv_X12_156 ⟨Nat.le_of_ble_eq_true rfl, Nat.le_of_ble_eq_true rfl⟩ (m_X12_enters (m := 4 * i + min i 3 + j) hf (by omega) hw) dX12_flies_49 (rfl : 49 + 3 = 52) (Nat.le_of_ble_eq_true rfl) rfl rfl rfl ⟨Nat.le_of_ble_eq_true rfl, Nat.le_of_ble_eq_true rfl⟩ ?_
    refine k_if_ne (tgt := 60) dX12_flies_52 (rfl : 52 + 3 = 55) (by decide) (fun b52 => ?_) (fun b52 => ?_)
    · refine k_iinc (i := 4) (v := (nI (j + 1))) dX12_flies_60 (rfl : 60 + 3 = 63) rfl (Nat.le_of_ble_eq_true rfl) (nI_1 _) ?_
      refine k_ls (ls2 := [.ref 116, .int a, .int w, .int (nI i), .int (nI (j + 1))]) rfl ?_
      refine k_goto (tgt := 38) dX12_flies_63 (by decide) ?_
      exact ih (g_X12_enters x w) (j + 1) (by omega) (en_fy (m := 4 * i + min i 3 + j) hf (by omega) hw b52) (fun y e => hr y (by rw [fiI, if_neg (show ¬ ((f_X12_enters x w) = 0) from b52)]; exact e)) (fun y e => hx y (by rw [fiI, if_neg (show ¬ ((f_X12_enters x w) = 0) from b52)]; exact e))
    · refine k_aload_n (i := 0) dX12_flies_55 (rfl : 55 + 1 = 56) rfl rfl ?_
      refine k_get 12 13 fg_X12_146 dX12_flies_56 (rfl : 56 + 3 = 59) (Nat.le_of_ble_eq_true rfl) rfl rfl ?_
      refine k_iret rfl rfl dX12_flies_59 (Nat.le_of_ble_eq_true rfl) (Nat.le_of_ble_eq_true rfl) ?_
      exact hr _ (by rw [fiI, if_pos (show (f_X12_enters x w) = 0 from b52)])
theorem fy_up2 {x : kY} {m k : Nat} (h : kFy x m) (hk : m ≤ k) : kFy x k := by
  obtain ⟨n, hn, e⟩ := h
  exact ⟨n, Nat.le_trans hn hk, e⟩
/-- a flight that was stopped -/
def kFe (y : kY × Int32) : Prop := ∃ n, n ≤ 35 ∧ y.1.1 7 = nI n ∧ y.2 = nI n
theorem en_fe {x : kY} {w : Int32} {m : Nat} (hf : kFy x m) (hm : m ≤ 35) (h : f_X12_enters x w = 0) : kFe (g_X12_enters x w, (g_X12_enters x w).1 7) := by
  obtain ⟨n, hn, e, -⟩ := hf
  unfold f_X12_enters at h
  unfold g_X12_enters
  split
  · rename_i h1
    rw [if_pos h1] at h
    exact absurd h (by decide)
  · exact ⟨n, by omega, e, e⟩
theorem fiI_ok {a w : Int32} {M : Nat} (hw : kP8 w) (hM : M + 4 ≤ 35) (h4 : Int32.toNatClampNeg (f_X12_arm a) ≤ 4) {k : Nat} : ∀ {x : kY} {j : Nat}, j + k = Int32.toNatClampNeg (f_X12_arm a) → kFy x (M + j) → Sum.elim (fun y : kY × Int32 => y.1.2 0 = x.2 0 ∧ kFe y) (fun y : kY => y.2 0 = x.2 0 ∧ kFy y (M + 4)) (fiI a w k x j) := by
  induction k with
  | zero => intro x j hj hf; exact ⟨rfl, fy_up2 hf (by omega)⟩
  | succ k ih =>
    intro x j hj hf
    rw [fiI]
    split
    · rename_i h
      exact ⟨en_v, en_fe hf (by omega) h⟩
    · rename_i h
      have h2 := ih (x := g_X12_enters x w) (j := j + 1) (by omega) (en_fy (m := M + j) hf (by omega) hw h)
      rw [en_v] at h2
      exact h2
theorem fi_r {a w : Int32} {i : Nat} {x y : kY} (hi : i < 8) (hw : kP8 w) (h4 : Int32.toNatClampNeg (f_X12_arm a) ≤ 4) (hf : kFy x (4 * i + min i 3)) (h : fiI a w (Int32.toNatClampNeg (f_X12_arm a)) x 0 = .inr y) : y.2 0 = x.2 0 ∧ kFy y (4 * i + min i 3 + 4) := by
  have h2 := fiI_ok (a := a) (w := w) (M := 4 * i + min i 3) hw (by omega) h4 (k := Int32.toNatClampNeg (f_X12_arm a)) (x := x) (j := 0) (by omega) hf
  rw [h] at h2
  exact h2
theorem p8_w {w : Int32} (h : kP8 w) : kP8 ((w + 1) - (w + 1) / 8 * 8) ∧ kP8 ((w + 7) - (w + 7) / 8 * 8) := by
  obtain ⟨n, hn, rfl⟩ := h
  have h2 : ∀ n, n < 8 → (nI n + 1) - (nI n + 1) / 8 * 8 = nI ((n + 1) % 8) ∧ (nI n + 7) - (nI n + 7) / 8 * 8 = nI ((n + 7) % 8) := by decide
  exact ⟨⟨(n + 1) % 8, by omega, (h2 n hn).1⟩, ⟨(n + 7) % 8, by omega, (h2 n hn).2⟩⟩
theorem p8_a {a : Int32} (h : kC64 a) : kP8 (a - a / 8 * 8) := by
  obtain ⟨n, hn, rfl⟩ := h
  have h2 : ∀ n, n < 64 → nI n - nI n / 8 * 8 = nI (n % 8) := by decide
  exact ⟨n % 8, by omega, h2 n hn⟩
theorem arm_4 {a : Int32} (h : kC64 a) : Int32.toNatClampNeg (f_X12_arm a) ≤ 4 := by
  obtain ⟨n, hn, rfl⟩ := h
  have h2 : ∀ n, n < 64 → f_X12_arm (nI n) = nI (1 + n / 8 % 4) := by decide
  rw [h2 n hn, nI_clamp (by omega)]
  omega
theorem mv_w {v : Nat → Int32} (h : kMv v) : kP8 (v 4) := h.2.2.2.1
theorem mv_b {v : Nat → Int32} (h : kMv v) : kC64 (v 3) := h.2.2.1
theorem mv_s {v : Nat → Int32} {j : Nat} (h : kMv v) (hj : j < 8) (h5 : ¬ v 5 ≤ nI j) : j < 3 := by
  obtain ⟨n, hn, e⟩ := h.2.2.2.2.1
  rw [e] at h5
  rcases Nat.lt_or_ge j n with q | q
  · omega
  · exact absurd (nI_le (a := n) (b := j) q (by omega)) h5
def fiL (a : Int32) : Nat → kY → Nat → Int32 → (kY × Int32) ⊕ (kY)
  | 0, x, j, w => .inr x
  | k + 1, x, j, w => Sum.elim (fun w38 => .inl (w38.1, w38.2)) (fun w38 => if ((w38.2 0) 5) ≤ (nI j) then (if 32 ≤ a then (fiL a k w38 (j + 1) ((w + 7) - (w + 7) / 8 * 8)) else (fiL a k w38 (j + 1) ((w + 1) - (w + 1) / 8 * 8))) else (if (f_X12_enters w38 ((w38.2 0) 4)) = 0 then (.inl ((g_X12_enters w38 ((w38.2 0) 4)), ((g_X12_enters w38 ((w38.2 0) 4)).1 7))) else (if 32 ≤ a then (fiL a k (g_X12_enters w38 ((w38.2 0) 4)) (j + 1) ((w + 7) - (w + 7) / 8 * 8)) else (fiL a k (g_X12_enters w38 ((w38.2 0) 4)) (j + 1) ((w + 1) - (w + 1) / 8 * 8))))) (fiI a w (Int32.toNatClampNeg (f_X12_arm a)) x 0)
set_option maxRecDepth 100000 in
set_option maxHeartbeats 4000000 in
theorem lfiL {a9 : kH} {z9 : kE × kE} {Q : kQ} {a : Int32}  (h4 : Int32.toNatClampNeg (f_X12_arm a) ≤ 4) : ∀ (k : Nat) (x : kY) (j : Nat) (w : Int32) (t4 : Value), j + k = 8 → kFy x (4 * j + min j 3) → kP8 w → kMv (x.2 0) → (∀ y, (fiL a k x j w) = .inl y → Q (.inl (some (.int y.2))) (kTp a9 (kHr y.1 z9)) 130) → (∀ y, (fiL a k x j w) = .inr y → ∀ (z3 : Value) (z2 : Value) (z4 : Value), kEv kX12_flies (kRm kX12_flies 0 0) (kFm false 0 0 (Q)) false 118 [.ref 116, .int a, z2, z3, z4] [] (kTp a9 (kHr y z9)) 130 0 0) → kEv kX12_flies (kRm kX12_flies 0 0) (kFm false 0 0 (Q)) false 29 [.ref 116, .int a, .int w, .int (nI j), t4] [] (kTp a9 (kHr x z9)) 130 0 0 := by
  intro k
  induction k with
  | zero =>
    intro x j w t4 hj hf hw hv hr hx
    refine k_iload_n (i := 3) dX12_flies_29 (rfl : 29 + 1 = 30) rfl rfl ?_
    refine k_bipush (v := 8) dX12_flies_30 (rfl : 30 + 2 = 32) (by decide) ?_
    refine k_icmp_ge (tgt := 118) dX12_flies_32 (rfl : 32 + 3 = 35) (by decide) (fun b32 => ?_) (fun b32 => by exact absurd (nI_le (a := 8) (b := j) (by omega) (by omega)) b32)
    exact hx _ (by rw [fiL]) _ _ _
  | succ k ih =>
    intro x j w t4 hj hf hw hv hr hx
    refine k_iload_n (i := 3) dX12_flies_29 (rfl : 29 + 1 = 30) rfl rfl ?_
    refine k_bipush (v := 8) dX12_flies_30 (rfl : 30 + 2 = 32) (by decide) ?_
    refine k_icmp_ge (tgt := 118) dX12_flies_32 (rfl : 32 + 3 = 35) (by decide) (fun b32 => by exact absurd b32 (nI_ge (a := j) (b := 8) (by omega) (by decide))) (fun b32 => ?_)
    refine k_iconst (v := 0) dX12_flies_35 (rfl : 35 + 1 = 36) (by decide) ?_
    refine k_istore (i := 4) dX12_flies_36 (rfl : 36 + 2 = 38) (Nat.le_of_ble_eq_true rfl) ?_
    refine k_ls (ls2 := [.ref 116, .int a, .int w, .int (nI j), .int 0]) rfl ?_
    refine lfiI (a := a) (w := w) (by omega) hw h4 (Int32.toNatClampNeg (f_X12_arm a)) x 0 (by omega) hf (fun w38 hw38 => ?_) (fun w38 hw38 z4 => ?_)
    · exact hr _ (by rw [fiL, hw38, Sum.elim_inl])
    · refine k_iload_n (i := 3) dX12_flies_66 (rfl : 66 + 1 = 67) rfl rfl ?_
      refine k_aload_n (i := 0) dX12_flies_67 (rfl : 67 + 1 = 68) rfl rfl ?_
      refine k_get 12 7 fg_X12_16 dX12_flies_68 (rfl : 68 + 3 = 71) (Nat.le_of_ble_eq_true rfl) rfl rfl ?_
      refine k_iconst (v := 5) dX12_flies_71 (rfl : 71 + 1 = 72) (by decide) ?_
      refine k_ialdc (c := 5) (by decide) dX12_flies_72 (rfl : 72 + 1 = 73) (Nat.le_of_ble_eq_true rfl) rfl (vp_in_iff.mpr (by decide)) ?_
      refine k_icmp_ge (tgt := 94) dX12_flies_73 (rfl : 73 + 3 = 76) (by decide) (fun b73 => ?_) (fun b73 => ?_)
      · refine k_iload_n (i := 2) dX12_flies_94 (rfl : 94 + 1 = 95) rfl rfl ?_
        refine k_iload_n (i := 1) dX12_flies_95 (rfl : 95 + 1 = 96) rfl rfl ?_
        refine k_bipush (v := 32) dX12_flies_96 (rfl : 96 + 2 = 98) (by decide) ?_
        refine k_icmp_ge (tgt := 105) dX12_flies_98 (rfl : 98 + 3 = 101) (by decide) (fun b98 => ?_) (fun b98 => ?_)
        · refine k_bipush (v := 7) dX12_flies_105 (rfl : 105 + 2 = 107) (by decide) ?_
          refine k_iadd dX12_flies_107 (rfl : 107 + 1 = 108) ?_
          refine k_bipush (v := 8) dX12_flies_108 (rfl : 108 + 2 = 110) (by decide) ?_
          refine k_irem dX12_flies_110 (rfl : 110 + 1 = 111) (by decide) ?_
          refine k_istore_n (i := 2) dX12_flies_111 (rfl : 111 + 1 = 112) rfl (Nat.le_of_ble_eq_true rfl) ?_
          refine k_ls (ls2 := [.ref 116, .int a, .int ((w + 7) - (w + 7) / 8 * 8), .int (nI j), z4]) rfl ?_
          refine k_iinc (i := 3) (v := (nI (j + 1))) dX12_flies_112 (rfl : 112 + 3 = 115) rfl (Nat.le_of_ble_eq_true rfl) (nI_1 _) ?_
          refine k_ls (ls2 := [.ref 116, .int a, .int ((w + 7) - (w + 7) / 8 * 8), .int (nI (j + 1)), z4]) rfl ?_
          refine k_goto (tgt := 29) dX12_flies_115 (by decide) ?_
          exact ih w38 (j + 1) ((w + 7) - (w + 7) / 8 * 8) _ (by omega) (fy_up2 (fi_r (i := j) (by omega) hw h4 hf hw38).2 (by omega)) (p8_w hw).2 (by rw [(fi_r (i := j) (by omega) hw h4 hf hw38).1]; exact hv) (fun y e => hr y (by rw [fiL, hw38, Sum.elim_inr, if_pos (show ((w38.2 0) 5) ≤ (nI j) from b73), if_pos (show 32 ≤ a from b98)]; exact e)) (fun y e => hx y (by rw [fiL, hw38, Sum.elim_inr, if_pos (show ((w38.2 0) 5) ≤ (nI j) from b73), if_pos (show 32 ≤ a from b98)]; exact e))
        · refine k_iconst (v := 1) dX12_flies_101 (rfl : 101 + 1 = 102) (by decide) ?_
          refine k_goto (tgt := 107) dX12_flies_102 (by decide) ?_
          refine k_iadd dX12_flies_107 (rfl : 107 + 1 = 108) ?_
          refine k_bipush (v := 8) dX12_flies_108 (rfl : 108 + 2 = 110) (by decide) ?_
          refine k_irem dX12_flies_110 (rfl : 110 + 1 = 111) (by decide) ?_
          refine k_istore_n (i := 2) dX12_flies_111 (rfl : 111 + 1 = 112) rfl (Nat.le_of_ble_eq_true rfl) ?_
          refine k_ls (ls2 := [.ref 116, .int a, .int ((w + 1) - (w + 1) / 8 * 8), .int (nI j), z4]) rfl ?_
          refine k_iinc (i := 3) (v := (nI (j + 1))) dX12_flies_112 (rfl : 112 + 3 = 115) rfl (Nat.le_of_ble_eq_true rfl) (nI_1 _) ?_
          refine k_ls (ls2 := [.ref 116, .int a, .int ((w + 1) - (w + 1) / 8 * 8), .int (nI (j + 1)), z4]) rfl ?_
          refine k_goto (tgt := 29) dX12_flies_115 (by decide) ?_
          exact ih w38 (j + 1) ((w + 1) - (w + 1) / 8 * 8) _ (by omega) (fy_up2 (fi_r (i := j) (by omega) hw h4 hf hw38).2 (by omega)) (p8_w hw).1 (by rw [(fi_r (i := j) (by omega) hw h4 hf hw38).1]; exact hv) (fun y e => hr y (by rw [fiL, hw38, Sum.elim_inr, if_pos (show ((w38.2 0) 5) ≤ (nI j) from b73), if_neg (show ¬ (32 ≤ a) from b98)]; exact e)) (fun y e => hx y (by rw [fiL, hw38, Sum.elim_inr, if_pos (show ((w38.2 0) 5) ≤ (nI j) from b73), if_neg (show ¬ (32 ≤ a) from b98)]; exact e))
      · refine k_aload_n (i := 0) dX12_flies_76 (rfl : 76 + 1 = 77) rfl rfl ?_
        refine k_aload_n (i := 0) dX12_flies_77 (rfl : 77 + 1 = 78) rfl rfl ?_
        refine k_get 12 7 fg_X12_16 dX12_flies_78 (rfl : 78 + 3 = 81) (Nat.le_of_ble_eq_true rfl) rfl rfl ?_
        refine k_iconst (v := 4) dX12_flies_81 (rfl : 81 + 1 = 82) (by decide) ?_
        refine k_ialdc (c := 4) (by decide) dX12_flies_82 (rfl : 82 + 1 = 83) (Nat.le_of_ble_eq_true rfl) rfl (vp_in_iff.mpr (by decide)) ?_
        refine k_callVd1 cv_X12_156 ⟨Nat.le_of_ble_eq_true rfl, Nat.le_of_ble_eq_true rfl⟩ (m_X12_enters (m := 4 * j + min j 3 + 4) (fi_r (i := j) (by omega) hw h4 hf hw38).2 (by omega) (by rw [(fi_r (i := j) (by omega) hw h4 hf hw38).1]; exact mv_w hv)) dX12_flies_83 (rfl : 83 + 3 = 86) (Nat.le_of_ble_eq_true rfl) rfl rfl rfl ⟨Nat.le_of_ble_eq_true rfl, Nat.le_of_ble_eq_true rfl⟩ ?_
        refine k_if_ne (tgt := 94) dX12_flies_86 (rfl : 86 + 3 = 89) (by decide) (fun b86 => ?_) (fun b86 => ?_)
        · refine k_iload_n (i := 2) dX12_flies_94 (rfl : 94 + 1 = 95) rfl rfl ?_
          refine k_iload_n (i := 1) dX12_flies_95 (rfl : 95 + 1 = 96) rfl rfl ?_
          refine k_bipush (v := 32) dX12_flies_96 (rfl : 96 + 2 = 98) (by decide) ?_
          refine k_icmp_ge (tgt := 105) dX12_flies_98 (rfl : 98 + 3 = 101) (by decide) (fun b98 => ?_) (fun b98 => ?_)
          · refine k_bipush (v := 7) dX12_flies_105 (rfl : 105 + 2 = 107) (by decide) ?_
            refine k_iadd dX12_flies_107 (rfl : 107 + 1 = 108) ?_
            refine k_bipush (v := 8) dX12_flies_108 (rfl : 108 + 2 = 110) (by decide) ?_
            refine k_irem dX12_flies_110 (rfl : 110 + 1 = 111) (by decide) ?_
            refine k_istore_n (i := 2) dX12_flies_111 (rfl : 111 + 1 = 112) rfl (Nat.le_of_ble_eq_true rfl) ?_
            refine k_ls (ls2 := [.ref 116, .int a, .int ((w + 7) - (w + 7) / 8 * 8), .int (nI j), z4]) rfl ?_
            refine k_iinc (i := 3) (v := (nI (j + 1))) dX12_flies_112 (rfl : 112 + 3 = 115) rfl (Nat.le_of_ble_eq_true rfl) (nI_1 _) ?_
            refine k_ls (ls2 := [.ref 116, .int a, .int ((w + 7) - (w + 7) / 8 * 8), .int (nI (j + 1)), z4]) rfl ?_
            refine k_goto (tgt := 29) dX12_flies_115 (by decide) ?_
            exact ih (g_X12_enters w38 ((w38.2 0) 4)) (j + 1) ((w + 7) - (w + 7) / 8 * 8) _ (by omega) (fy_up2 (en_fy (m := 4 * j + min j 3 + 4) (fi_r (i := j) (by omega) hw h4 hf hw38).2 (by omega) (by rw [(fi_r (i := j) (by omega) hw h4 hf hw38).1]; exact mv_w hv) b86) (by have := mv_s (j := j) hv (by omega) (by rw [(fi_r (i := j) (by omega) hw h4 hf hw38).1] at b73; exact b73); omega)) (p8_w hw).2 (by rw [en_v, (fi_r (i := j) (by omega) hw h4 hf hw38).1]; exact hv) (fun y e => hr y (by rw [fiL, hw38, Sum.elim_inr, if_neg (show ¬ (((w38.2 0) 5) ≤ (nI j)) from b73), if_neg (show ¬ ((f_X12_enters w38 ((w38.2 0) 4)) = 0) from b86), if_pos (show 32 ≤ a from b98)]; exact e)) (fun y e => hx y (by rw [fiL, hw38, Sum.elim_inr, if_neg (show ¬ (((w38.2 0) 5) ≤ (nI j)) from b73), if_neg (show ¬ ((f_X12_enters w38 ((w38.2 0) 4)) = 0) from b86), if_pos (show 32 ≤ a from b98)]; exact e))
          · refine k_iconst (v := 1) dX12_flies_101 (rfl : 101 + 1 = 102) (by decide) ?_
            refine k_goto (tgt := 107) dX12_flies_102 (by decide) ?_
            refine k_iadd dX12_flies_107 (rfl : 107 + 1 = 108) ?_
            refine k_bipush (v := 8) dX12_flies_108 (rfl : 108 + 2 = 110) (by decide) ?_
            refine k_irem dX12_flies_110 (rfl : 110 + 1 = 111) (by decide) ?_
            refine k_istore_n (i := 2) dX12_flies_111 (rfl : 111 + 1 = 112) rfl (Nat.le_of_ble_eq_true rfl) ?_
            refine k_ls (ls2 := [.ref 116, .int a, .int ((w + 1) - (w + 1) / 8 * 8), .int (nI j), z4]) rfl ?_
            refine k_iinc (i := 3) (v := (nI (j + 1))) dX12_flies_112 (rfl : 112 + 3 = 115) rfl (Nat.le_of_ble_eq_true rfl) (nI_1 _) ?_
            refine k_ls (ls2 := [.ref 116, .int a, .int ((w + 1) - (w + 1) / 8 * 8), .int (nI (j + 1)), z4]) rfl ?_
            refine k_goto (tgt := 29) dX12_flies_115 (by decide) ?_
            exact ih (g_X12_enters w38 ((w38.2 0) 4)) (j + 1) ((w + 1) - (w + 1) / 8 * 8) _ (by omega) (fy_up2 (en_fy (m := 4 * j + min j 3 + 4) (fi_r (i := j) (by omega) hw h4 hf hw38).2 (by omega) (by rw [(fi_r (i := j) (by omega) hw h4 hf hw38).1]; exact mv_w hv) b86) (by have := mv_s (j := j) hv (by omega) (by rw [(fi_r (i := j) (by omega) hw h4 hf hw38).1] at b73; exact b73); omega)) (p8_w hw).1 (by rw [en_v, (fi_r (i := j) (by omega) hw h4 hf hw38).1]; exact hv) (fun y e => hr y (by rw [fiL, hw38, Sum.elim_inr, if_neg (show ¬ (((w38.2 0) 5) ≤ (nI j)) from b73), if_neg (show ¬ ((f_X12_enters w38 ((w38.2 0) 4)) = 0) from b86), if_neg (show ¬ (32 ≤ a) from b98)]; exact e)) (fun y e => hx y (by rw [fiL, hw38, Sum.elim_inr, if_neg (show ¬ (((w38.2 0) 5) ≤ (nI j)) from b73), if_neg (show ¬ ((f_X12_enters w38 ((w38.2 0) 4)) = 0) from b86), if_neg (show ¬ (32 ≤ a) from b98)]; exact e))
        · refine k_aload_n (i := 0) dX12_flies_89 (rfl : 89 + 1 = 90) rfl rfl ?_
          refine k_get 12 13 fg_X12_146 dX12_flies_90 (rfl : 90 + 3 = 93) (Nat.le_of_ble_eq_true rfl) rfl rfl ?_
          refine k_iret rfl rfl dX12_flies_93 (Nat.le_of_ble_eq_true rfl) (Nat.le_of_ble_eq_true rfl) ?_
          exact hr _ (by rw [fiL, hw38, Sum.elim_inr, if_neg (show ¬ (((w38.2 0) 5) ≤ (nI j)) from b73), if_pos (show (f_X12_enters w38 ((w38.2 0) 4)) = 0 from b86)])
theorem fi_0 {x : kY} (hv : kMv (x.2 0)) : kFy (yS (yR (yS x 7 0) 4 (upd (x.2 4) 0 (x.2 0 3))) 8 0) (4 * 0 + min 0 3) := ⟨0, by omega, rfl, by show kC64 (upd (x.2 4) 0 (x.2 0 3) 0); rw [pk_us]; exact mv_b hv⟩
def f_X12_flies (x : kY) (a1 : Int32) : Int32 := Sum.elim (fun w29 => w29.2) (fun w29 => (w29.1 7)) (fiL a1 8 (yS (yR (yS x 7 0) 4 (upd (x.2 4) 0 ((x.2 0) 3))) 8 0) 0 (a1 - a1 / 8 * 8))
def g_X12_flies (x : kY) (a1 : Int32) : kY := Sum.elim (fun w29 => w29.1) (fun w29 => w29) (fiL a1 8 (yS (yR (yS x 7 0) 4 (upd (x.2 4) 0 ((x.2 0) 3))) 8 0) 0 (a1 - a1 / 8 * 8))
set_option maxRecDepth 100000 in
set_option maxHeartbeats 4000000 in
theorem m_X12_flies {x : kY} {a9 : kH} {z9 : kE × kE} {a1 : Int32} (hn : kC64 a1) (hv : kMv (x.2 0)) : kMet kX12_flies false 0 0 [.ref 116, .int a1] (kTp a9 (kHr x z9)) 130 (kRt (some (.int (f_X12_flies x a1))) (kTp a9 (kHr (g_X12_flies x a1) z9)) 130) := by
  refine kMet.in (by decide) rfl rfl _ rfl ?_
  refine k_aload_n (i := 0) dX12_flies_0 (rfl : 0 + 1 = 1) rfl rfl ?_
  refine k_iconst (v := 0) dX12_flies_1 (rfl : 1 + 1 = 2) (by decide) ?_
  refine k_put 12 13 fp_X12_146 dX12_flies_2 (rfl : 2 + 3 = 5) (Nat.le_of_ble_eq_true rfl) rfl (Nat.le_of_ble_eq_true rfl) rfl rfl ?_
  refine kf_Y7 (v := 0) rfl ?_
  refine k_aload_n (i := 0) dX12_flies_5 (rfl : 5 + 1 = 6) rfl rfl ?_
  refine k_get 12 11 fg_X12_29 dX12_flies_6 (rfl : 6 + 3 = 9) (Nat.le_of_ble_eq_true rfl) rfl rfl ?_
  refine k_iconst (v := 0) dX12_flies_9 (rfl : 9 + 1 = 10) (by decide) ?_
  refine k_aload_n (i := 0) dX12_flies_10 (rfl : 10 + 1 = 11) rfl rfl ?_
  refine k_get 12 7 fg_X12_16 dX12_flies_11 (rfl : 11 + 3 = 14) (Nat.le_of_ble_eq_true rfl) rfl rfl ?_
  refine k_iconst (v := 3) dX12_flies_14 (rfl : 14 + 1 = 15) (by decide) ?_
  refine k_ialdc (c := 3) (by decide) dX12_flies_15 (rfl : 15 + 1 = 16) (Nat.le_of_ble_eq_true rfl) rfl (vp_in_iff.mpr (by decide)) ?_
  refine k_iastc (c := 0) (by decide) dX12_flies_16 (rfl : 16 + 1 = 17) (Nat.le_of_ble_eq_true rfl) rfl (vp_in_iff.mpr (by decide)) ?_
  refine kf_Z4 (f := (upd (x.2 4) 0 ((x.2 0) 3))) rfl ?_
  refine k_aload_n (i := 0) dX12_flies_17 (rfl : 17 + 1 = 18) rfl rfl ?_
  refine k_iconst (v := 0) dX12_flies_18 (rfl : 18 + 1 = 19) (by decide) ?_
  refine k_put 12 14 fp_X12_149 dX12_flies_19 (rfl : 19 + 3 = 22) (Nat.le_of_ble_eq_true rfl) rfl (Nat.le_of_ble_eq_true rfl) rfl rfl ?_
  refine kf_Y8 (v := 0) rfl ?_
  refine k_iload_n (i := 1) dX12_flies_22 (rfl : 22 + 1 = 23) rfl rfl ?_
  refine k_bipush (v := 8) dX12_flies_23 (rfl : 23 + 2 = 25) (by decide) ?_
  refine k_irem dX12_flies_25 (rfl : 25 + 1 = 26) (by decide) ?_
  refine k_istore_n (i := 2) dX12_flies_26 (rfl : 26 + 1 = 27) rfl (Nat.le_of_ble_eq_true rfl) ?_
  refine k_ls (ls2 := [.ref 116, .int a1, .int (a1 - a1 / 8 * 8), .retAddr 0, .retAddr 0]) rfl ?_
  refine k_iconst (v := 0) dX12_flies_27 (rfl : 27 + 1 = 28) (by decide) ?_
  refine k_istore_n (i := 3) dX12_flies_28 (rfl : 28 + 1 = 29) rfl (Nat.le_of_ble_eq_true rfl) ?_
  refine k_ls (ls2 := [.ref 116, .int a1, .int (a1 - a1 / 8 * 8), .int 0, .retAddr 0]) rfl ?_
  refine lfiL (a := a1) (arm_4 hn) 8 (yS (yR (yS x 7 0) 4 (upd (x.2 4) 0 ((x.2 0) 3))) 8 0) 0 (a1 - a1 / 8 * 8) _ (by omega) (fi_0 hv) (p8_a hn) hv (fun w29 hw29 => ?_) (fun w29 hw29 z3 z2 z4 => ?_)
  · exact kRt_of (congrArg (fun z => some (Value.int z)) (Eq.symm (congrArg (Sum.elim _ _) hw29))) (congrArg (fun z => kTp a9 (kHr z z9)) (Eq.symm (congrArg (Sum.elim _ _) hw29)))
  · refine k_aload_n (i := 0) dX12_flies_118 (rfl : 118 + 1 = 119) rfl rfl ?_
    refine k_get 12 13 fg_X12_146 dX12_flies_119 (rfl : 119 + 3 = 122) (Nat.le_of_ble_eq_true rfl) rfl rfl ?_
    refine k_iret rfl rfl dX12_flies_122 (Nat.le_of_ble_eq_true rfl) (Nat.le_of_ble_eq_true rfl) ?_
    exact kRt_of (congrArg (fun z => some (Value.int z)) (Eq.symm (congrArg (Sum.elim _ _) hw29))) (congrArg (fun z => kTp a9 (kHr z z9)) (Eq.symm (congrArg (Sum.elim _ _) hw29)))
theorem fiL_ok {a : Int32} (h4 : Int32.toNatClampNeg (f_X12_arm a) ≤ 4) {k : Nat} : ∀ {x : kY} {j : Nat} {w : Int32}, j + k = 8 → kFy x (4 * j + min j 3) → kP8 w → kMv (x.2 0) → Sum.elim (fun y : kY × Int32 => y.1.2 0 = x.2 0 ∧ kFe y) (fun y : kY => y.2 0 = x.2 0 ∧ kFy y 35) (fiL a k x j w) := by
  induction k with
  | zero => intro x j w hj hf _ _; exact ⟨rfl, fy_up2 hf (by omega)⟩
  | succ k ih =>
    intro x j w hj hf hw hv
    have h1 := fiI_ok (a := a) (w := w) (M := 4 * j + min j 3) hw (by omega) h4 (k := Int32.toNatClampNeg (f_X12_arm a)) (x := x) (j := 0) (by omega) hf
    rw [fiL]
    revert h1
    generalize fiI a w (Int32.toNatClampNeg (f_X12_arm a)) x 0 = z
    intro h1
    cases z with
    | inl y => exact h1
    | inr y =>
      obtain ⟨e, hy⟩ := h1
      simp only [Sum.elim_inr]
      have hvy : kMv (y.2 0) := by rw [e]; exact hv
      have go : ∀ (q : kY) (w2 : Int32), q.2 0 = x.2 0 → kFy q (4 * (j + 1) + min (j + 1) 3) → kP8 w2 → Sum.elim (fun y : kY × Int32 => y.1.2 0 = x.2 0 ∧ kFe y) (fun y : kY => y.2 0 = x.2 0 ∧ kFy y 35) (fiL a k q (j + 1) w2) := by
        intro q w2 e2 h2 h3
        have h9 := ih (x := q) (j := j + 1) (w := w2) (by omega) h2 h3 (by rw [e2]; exact hv)
        rw [e2] at h9
        exact h9
      split
      · split
        · exact go _ _ e (fy_up2 hy (by omega)) (p8_w hw).2
        · exact go _ _ e (fy_up2 hy (by omega)) (p8_w hw).1
      · rename_i h5
        have hs := mv_s hvy (by omega) h5
        split
        · rename_i h0
          exact ⟨en_v.trans e, en_fe hy (by omega) h0⟩
        · rename_i h0
          have hu := en_fy (m := 4 * j + min j 3 + 4) hy (by omega) (mv_w hvy) h0
          split
          · exact go _ _ (en_v.trans e) (fy_up2 hu (by omega)) (p8_w hw).2
          · exact go _ _ (en_v.trans e) (fy_up2 hu (by omega)) (p8_w hw).1
/-- what a flight is: v stays, flightN is what is answered -/
theorem flies_ok {x : kY} {a : Int32} (hn : kC64 a) (hv : kMv (x.2 0)) : (g_X12_flies x a).2 0 = x.2 0 ∧ ∃ n, n ≤ 35 ∧ (g_X12_flies x a).1 7 = nI n ∧ f_X12_flies x a = nI n := by
  have h := fiL_ok (a := a) (arm_4 hn) (k := 8) (x := yS (yR (yS x 7 0) 4 (upd (x.2 4) 0 (x.2 0 3))) 8 0) (j := 0) (w := a - a / 8 * 8) (by omega) (fi_0 hv) (p8_a hn) hv
  unfold g_X12_flies f_X12_flies
  revert h
  generalize fiL a 8 (yS (yR (yS x 7 0) 4 (upd (x.2 4) 0 ((x.2 0) 3))) 8 0) 0 (a - a / 8 * 8) = z
  intro h
  cases z with
  | inl y =>
    obtain ⟨e, n, h1, h2, h3⟩ := h
    exact ⟨e, n, h1, h2, h3⟩
  | inr y =>
    obtain ⟨e, n, h1, h2, -⟩ := h
    exact ⟨e, n, h1, h2, h2⟩
