/-- the line's length -/
def kLn (x : kK) : Prop := ∃ n : Nat, n ≤ 32 ∧ x.2.1 7 = nI n
theorem kLn_in {x : kK} (hl : kLn x) (h : ¬ 32 ≤ x.2.1 7) : vp_in (x.2.1 7) 32 := by
  obtain ⟨m, hm, e⟩ := hl
  rw [e] at h ⊢
  refine vp_in_nI ?_ (by omega)
  rcases Nat.lt_or_ge m 32 with q | q
  · exact q
  · exact absurd (nI_le (a := 32) (b := m) q (by omega)) h
def g_X8_put (x : kK) (a1 : Int32) : kK := if 32 ≤ (x.2.1 7) then x else (kkS (kkR x 7 (upd (x.2.2.1 7) (Int32.toNatClampNeg (x.2.1 7)) (vp_nar .char a1))) 7 ((x.2.1 7) + 1))
set_option maxRecDepth 100000 in
set_option maxHeartbeats 4000000 in
theorem m_X8_put {x : kK} {r : kH} {a1 : Int32} (hl : kLn x) : kMet kX8_put false 0 0 [.ref 113, .int a1] (kTp (kHc x) r) 130 (kRt (none) (kTp (kHc (g_X8_put x a1)) r) 130) := by
  refine kMet.in (by decide) rfl rfl _ rfl ?_
  refine k_aload_n (i := 0) dX8_put_0 (rfl : 0 + 1 = 1) rfl rfl ?_
  refine k_get 8 1 fg_X8_13 dX8_put_1 (rfl : 1 + 3 = 4) (Nat.le_of_ble_eq_true rfl) rfl rfl ?_
  refine k_aload_n (i := 0) dX8_put_4 (rfl : 4 + 1 = 5) rfl rfl ?_
  refine k_get 8 0 fg_X8_7 dX8_put_5 (rfl : 5 + 3 = 8) (Nat.le_of_ble_eq_true rfl) rfl rfl ?_
  refine k_alen (ty := .char) (t := 1) (n := 32) (v := 32) rfl dX8_put_8 (rfl : 8 + 1 = 9) (Nat.le_of_ble_eq_true rfl) rfl rfl (by decide) ?_
  refine k_icmp_ge (tgt := 32) dX8_put_9 (rfl : 9 + 3 = 12) (by decide) (fun b9 => ?_) (fun b9 => ?_)
  · refine k_vret rfl dX8_put_32 (Nat.le_of_ble_eq_true rfl) (Nat.le_of_ble_eq_true rfl) ?_
    exact kRt_of rfl (congrArg (fun z => kTp (kHc z) r) (Eq.symm (if_pos (show 32 ≤ (x.2.1 7) from b9))))
  · refine k_aload_n (i := 0) dX8_put_12 (rfl : 12 + 1 = 13) rfl rfl ?_
    refine k_get 8 0 fg_X8_7 dX8_put_13 (rfl : 13 + 3 = 16) (Nat.le_of_ble_eq_true rfl) rfl rfl ?_
    refine k_aload_n (i := 0) dX8_put_16 (rfl : 16 + 1 = 17) rfl rfl ?_
    refine k_get 8 1 fg_X8_13 dX8_put_17 (rfl : 17 + 3 = 20) (Nat.le_of_ble_eq_true rfl) rfl rfl ?_
    refine k_iload_n (i := 1) dX8_put_20 (rfl : 20 + 1 = 21) rfl rfl ?_
    refine k_cast dX8_put_21 (rfl : 21 + 1 = 22) (Nat.le_of_ble_eq_true rfl) rfl (kLn_in hl b9) ?_
    refine kf_X7 (f := (upd (x.2.2.1 7) (Int32.toNatClampNeg (x.2.1 7)) (vp_nar .char a1))) rfl ?_
    refine k_aload_n (i := 0) dX8_put_22 (rfl : 22 + 1 = 23) rfl rfl ?_
    refine k_dup dX8_put_23 (rfl : 23 + 1 = 24) rfl ?_
    refine k_get 8 1 fg_X8_13 dX8_put_24 (rfl : 24 + 3 = 27) (Nat.le_of_ble_eq_true rfl) rfl rfl ?_
    refine k_iconst (v := 1) dX8_put_27 (rfl : 27 + 1 = 28) (by decide) ?_
    refine k_iadd dX8_put_28 (rfl : 28 + 1 = 29) ?_
    refine k_put 8 1 fp_X8_13 dX8_put_29 (rfl : 29 + 3 = 32) (Nat.le_of_ble_eq_true rfl) rfl (Nat.le_of_ble_eq_true rfl) rfl rfl ?_
    refine kf_C7 (v := ((x.2.1 7) + 1)) rfl ?_
    refine k_vret rfl dX8_put_32 (Nat.le_of_ble_eq_true rfl) (Nat.le_of_ble_eq_true rfl) ?_
    exact kRt_of rfl (congrArg (fun z => kTp (kHc z) r) (Eq.symm (if_neg (show ¬ (32 ≤ (x.2.1 7)) from b9))))
theorem put_ln {x : kK} {c : Int32} (hl : kLn x) : kLn (g_X8_put x c) := by
  unfold g_X8_put
  split
  · exact hl
  · rename_i h
    obtain ⟨m, hm, e⟩ := hl
    rw [e] at h
    refine ⟨m + 1, ?_, ?_⟩
    · rcases Nat.lt_or_ge m 32 with q | q
      · omega
      · exact absurd (nI_le (a := 32) (b := m) q (by omega)) h
    · show x.2.1 7 + 1 = nI (m + 1)
      rw [e, nI_1]
def pwT (j : Nat) : Int32 := if j < 10 then nI (10 ^ (9 - j)) else 0
theorem pwT_s {j : Nat} (h : j < 10) : pwT j / 10 = pwT (j + 1) := by
  have : ∀ j, j < 10 → pwT j / 10 = pwT (j + 1) := by decide
  exact this j h
theorem pwT_z {j : Nat} (h : j = 10) : pwT j ≤ 0 := by
  subst h
  decide
theorem pwT_nz {j : Nat} (h : j < 10) : ¬ pwT j ≤ 0 := by
  have : ∀ j, j < 10 → ¬ pwT j ≤ 0 := by decide
  exact this j h
theorem pwT_ne {j : Nat} (h : j < 10) : pwT j ≠ 0 := by
  have : ∀ j, j < 10 → pwT j ≠ 0 := by decide
  exact this j h
def pnL (a : Int32) : Nat → kK → Nat → Int32 → kK
  | 0, x, j, f => x
  | k + 1, x, j, f => if f = 0 then (if ((a / (pwT j)) - (a / (pwT j)) / 10 * 10) = 0 then (if (pwT j) = 1 then (pnL a k (g_X8_put x ((Int32.toUInt32 (48 + ((a / (pwT j)) - (a / (pwT j)) / 10 * 10)) % 65536).toInt32)) (j + 1) 1) else (pnL a k x (j + 1) 0)) else (pnL a k (g_X8_put x ((Int32.toUInt32 (48 + ((a / (pwT j)) - (a / (pwT j)) / 10 * 10)) % 65536).toInt32)) (j + 1) 1)) else (pnL a k (g_X8_put x ((Int32.toUInt32 (48 + ((a / (pwT j)) - (a / (pwT j)) / 10 * 10)) % 65536).toInt32)) (j + 1) 1)
set_option maxRecDepth 100000 in
set_option maxHeartbeats 4000000 in
theorem lpnL {r : kH} {a : Int32}  : ∀ (k : Nat) (x : kK) (j : Nat) (f : Int32) (t4 : Value), j + k = 10 → kLn x → kEv kX8_putNumber (kRm kX8_putNumber 0 0) (kFm false 0 0 ((kRt none (kTp (kHc (pnL a k x j f)) r) 130))) false 5 [.ref 113, .int a, .int f, .int (pwT j), t4] [] (kTp (kHc x) r) 130 0 0 := by
  intro k
  induction k with
  | zero =>
    intro x j f t4 hj hl
    refine k_iload_n (i := 3) dX8_putNumber_5 (rfl : 5 + 1 = 6) rfl rfl ?_
    refine k_if_le (tgt := 59) dX8_putNumber_6 (rfl : 6 + 3 = 9) (by decide) (fun b6 => ?_) (fun b6 => by exact absurd (pwT_z (by omega)) b6)
    refine k_vret rfl dX8_putNumber_59 (Nat.le_of_ble_eq_true rfl) (Nat.le_of_ble_eq_true rfl) ?_
    have e9 : (pnL a 0 x j f) = x := by rw [pnL]
    exact kRt_of rfl (congrArg (fun z => kTp (kHc z) r) (Eq.symm e9))
  | succ k ih =>
    intro x j f t4 hj hl
    refine k_iload_n (i := 3) dX8_putNumber_5 (rfl : 5 + 1 = 6) rfl rfl ?_
    refine k_if_le (tgt := 59) dX8_putNumber_6 (rfl : 6 + 3 = 9) (by decide) (fun b6 => by exact absurd b6 (pwT_nz (by omega))) (fun b6 => ?_)
    refine k_iload_n (i := 1) dX8_putNumber_9 (rfl : 9 + 1 = 10) rfl rfl ?_
    refine k_iload_n (i := 3) dX8_putNumber_10 (rfl : 10 + 1 = 11) rfl rfl ?_
    refine k_idiv dX8_putNumber_11 (rfl : 11 + 1 = 12) (pwT_ne (by omega)) ?_
    refine k_bipush (v := 10) dX8_putNumber_12 (rfl : 12 + 2 = 14) (by decide) ?_
    refine k_irem dX8_putNumber_14 (rfl : 14 + 1 = 15) (by decide) ?_
    refine k_istore (i := 4) dX8_putNumber_15 (rfl : 15 + 2 = 17) (Nat.le_of_ble_eq_true rfl) ?_
    refine k_ls (ls2 := [.ref 113, .int a, .int f, .int (pwT j), .int ((a / (pwT j)) - (a / (pwT j)) / 10 * 10)]) rfl ?_
    refine k_iload_n (i := 2) dX8_putNumber_17 (rfl : 17 + 1 = 18) rfl rfl ?_
    refine k_if_ne (tgt := 31) dX8_putNumber_18 (rfl : 18 + 3 = 21) (by decide) (fun b18 => ?_) (fun b18 => ?_)
    · refine k_iconst (v := 1) dX8_putNumber_31 (rfl : 31 + 1 = 32) (by decide) ?_
      refine k_goto (tgt := 36) dX8_putNumber_32 (by decide) ?_
      refine k_istore_n (i := 2) dX8_putNumber_36 (rfl : 36 + 1 = 37) rfl (Nat.le_of_ble_eq_true rfl) ?_
      refine k_ls (ls2 := [.ref 113, .int a, .int 1, .int (pwT j), .int ((a / (pwT j)) - (a / (pwT j)) / 10 * 10)]) rfl ?_
      refine k_iload_n (i := 2) dX8_putNumber_37 (rfl : 37 + 1 = 38) rfl rfl ?_
      refine k_if_eq (tgt := 51) dX8_putNumber_38 (rfl : 38 + 3 = 41) (by decide) (fun b38 => by exact absurd b38 (by decide)) (fun b38 => ?_)
      refine k_aload_n (i := 0) dX8_putNumber_41 (rfl : 41 + 1 = 42) rfl rfl ?_
      refine k_bipush (v := 48) dX8_putNumber_42 (rfl : 42 + 2 = 44) (by decide) ?_
      refine k_iload (i := 4) dX8_putNumber_44 (rfl : 44 + 2 = 46) rfl ?_
      refine k_iadd dX8_putNumber_46 (rfl : 46 + 1 = 47) ?_
      refine k_i2c dX8_putNumber_47 (rfl : 47 + 1 = 48) ?_
      refine k_callVv1 cv_X8_18 ⟨Nat.le_of_ble_eq_true rfl, Nat.le_of_ble_eq_true rfl⟩ (m_X8_put hl) dX8_putNumber_48 (rfl : 48 + 3 = 51) (Nat.le_of_ble_eq_true rfl) rfl rfl rfl ⟨Nat.le_of_ble_eq_true rfl, Nat.le_of_ble_eq_true rfl⟩ ?_
      refine k_iload_n (i := 3) dX8_putNumber_51 (rfl : 51 + 1 = 52) rfl rfl ?_
      refine k_bipush (v := 10) dX8_putNumber_52 (rfl : 52 + 2 = 54) (by decide) ?_
      refine k_idiv dX8_putNumber_54 (rfl : 54 + 1 = 55) (by decide) ?_
      refine k_istore_n (i := 3) dX8_putNumber_55 (rfl : 55 + 1 = 56) rfl (Nat.le_of_ble_eq_true rfl) ?_
      refine k_ls (ls2 := [.ref 113, .int a, .int 1, .int ((pwT j) / 10), .int ((a / (pwT j)) - (a / (pwT j)) / 10 * 10)]) rfl ?_
      refine k_ls (ls2 := [.ref 113, .int a, .int 1, .int (pwT (j + 1)), .int ((a / (pwT j)) - (a / (pwT j)) / 10 * 10)]) (by rw [show ((pwT j) / 10) = (pwT (j + 1)) from (pwT_s (by omega))]) ?_
      refine k_goto (tgt := 5) dX8_putNumber_56 (by decide) ?_
      rw [pnL, if_neg (show ¬ (f = 0) from b18)]
      exact ih (g_X8_put x ((Int32.toUInt32 (48 + ((a / (pwT j)) - (a / (pwT j)) / 10 * 10)) % 65536).toInt32)) (j + 1) 1 _ (by omega) (put_ln hl)
    · refine k_iload (i := 4) dX8_putNumber_21 (rfl : 21 + 2 = 23) rfl ?_
      refine k_if_ne (tgt := 31) dX8_putNumber_23 (rfl : 23 + 3 = 26) (by decide) (fun b23 => ?_) (fun b23 => ?_)
      · refine k_iconst (v := 1) dX8_putNumber_31 (rfl : 31 + 1 = 32) (by decide) ?_
        refine k_goto (tgt := 36) dX8_putNumber_32 (by decide) ?_
        refine k_istore_n (i := 2) dX8_putNumber_36 (rfl : 36 + 1 = 37) rfl (Nat.le_of_ble_eq_true rfl) ?_
        refine k_ls (ls2 := [.ref 113, .int a, .int 1, .int (pwT j), .int ((a / (pwT j)) - (a / (pwT j)) / 10 * 10)]) rfl ?_
        refine k_iload_n (i := 2) dX8_putNumber_37 (rfl : 37 + 1 = 38) rfl rfl ?_
        refine k_if_eq (tgt := 51) dX8_putNumber_38 (rfl : 38 + 3 = 41) (by decide) (fun b38 => by exact absurd b38 (by decide)) (fun b38 => ?_)
        refine k_aload_n (i := 0) dX8_putNumber_41 (rfl : 41 + 1 = 42) rfl rfl ?_
        refine k_bipush (v := 48) dX8_putNumber_42 (rfl : 42 + 2 = 44) (by decide) ?_
        refine k_iload (i := 4) dX8_putNumber_44 (rfl : 44 + 2 = 46) rfl ?_
        refine k_iadd dX8_putNumber_46 (rfl : 46 + 1 = 47) ?_
        refine k_i2c dX8_putNumber_47 (rfl : 47 + 1 = 48) ?_
        refine k_callVv1 cv_X8_18 ⟨Nat.le_of_ble_eq_true rfl, Nat.le_of_ble_eq_true rfl⟩ (m_X8_put hl) dX8_putNumber_48 (rfl : 48 + 3 = 51) (Nat.le_of_ble_eq_true rfl) rfl rfl rfl ⟨Nat.le_of_ble_eq_true rfl, Nat.le_of_ble_eq_true rfl⟩ ?_
        refine k_iload_n (i := 3) dX8_putNumber_51 (rfl : 51 + 1 = 52) rfl rfl ?_
        refine k_bipush (v := 10) dX8_putNumber_52 (rfl : 52 + 2 = 54) (by decide) ?_
        refine k_idiv dX8_putNumber_54 (rfl : 54 + 1 = 55) (by decide) ?_
        refine k_istore_n (i := 3) dX8_putNumber_55 (rfl : 55 + 1 = 56) rfl (Nat.le_of_ble_eq_true rfl) ?_
        refine k_ls (ls2 := [.ref 113, .int a, .int 1, .int ((pwT j) / 10), .int ((a / (pwT j)) - (a / (pwT j)) / 10 * 10)]) rfl ?_
        refine k_ls (ls2 := [.ref 113, .int a, .int 1, .int (pwT (j + 1)), .int ((a / (pwT j)) - (a / (pwT j)) / 10 * 10)]) (by rw [show ((pwT j) / 10) = (pwT (j + 1)) from (pwT_s (by omega))]) ?_
        refine k_goto (tgt := 5) dX8_putNumber_56 (by decide) ?_
        rw [pnL, if_pos (show f = 0 from b18), if_neg (show ¬ (((a / (pwT j)) - (a / (pwT j)) / 10 * 10) = 0) from b23)]
        exact ih (g_X8_put x ((Int32.toUInt32 (48 + ((a / (pwT j)) - (a / (pwT j)) / 10 * 10)) % 65536).toInt32)) (j + 1) 1 _ (by omega) (put_ln hl)
      · refine k_iload_n (i := 3) dX8_putNumber_26 (rfl : 26 + 1 = 27) rfl rfl ?_
        refine k_iconst (v := 1) dX8_putNumber_27 (rfl : 27 + 1 = 28) (by decide) ?_
        refine k_icmp_ne (tgt := 35) dX8_putNumber_28 (rfl : 28 + 3 = 31) (by decide) (fun b28 => ?_) (fun b28 => ?_)
        · refine k_iconst (v := 0) dX8_putNumber_35 (rfl : 35 + 1 = 36) (by decide) ?_
          refine k_istore_n (i := 2) dX8_putNumber_36 (rfl : 36 + 1 = 37) rfl (Nat.le_of_ble_eq_true rfl) ?_
          refine k_ls (ls2 := [.ref 113, .int a, .int 0, .int (pwT j), .int ((a / (pwT j)) - (a / (pwT j)) / 10 * 10)]) rfl ?_
          refine k_iload_n (i := 2) dX8_putNumber_37 (rfl : 37 + 1 = 38) rfl rfl ?_
          refine k_if_eq (tgt := 51) dX8_putNumber_38 (rfl : 38 + 3 = 41) (by decide) (fun b38 => ?_) (fun b38 => by exact absurd (by decide) b38)
          refine k_iload_n (i := 3) dX8_putNumber_51 (rfl : 51 + 1 = 52) rfl rfl ?_
          refine k_bipush (v := 10) dX8_putNumber_52 (rfl : 52 + 2 = 54) (by decide) ?_
          refine k_idiv dX8_putNumber_54 (rfl : 54 + 1 = 55) (by decide) ?_
          refine k_istore_n (i := 3) dX8_putNumber_55 (rfl : 55 + 1 = 56) rfl (Nat.le_of_ble_eq_true rfl) ?_
          refine k_ls (ls2 := [.ref 113, .int a, .int 0, .int ((pwT j) / 10), .int ((a / (pwT j)) - (a / (pwT j)) / 10 * 10)]) rfl ?_
          refine k_ls (ls2 := [.ref 113, .int a, .int 0, .int (pwT (j + 1)), .int ((a / (pwT j)) - (a / (pwT j)) / 10 * 10)]) (by rw [show ((pwT j) / 10) = (pwT (j + 1)) from (pwT_s (by omega))]) ?_
          refine k_goto (tgt := 5) dX8_putNumber_56 (by decide) ?_
          rw [pnL, if_pos (show f = 0 from b18), if_pos (show ((a / (pwT j)) - (a / (pwT j)) / 10 * 10) = 0 from b23), if_neg (show ¬ ((pwT j) = 1) from b28)]
          exact ih x (j + 1) 0 _ (by omega) hl
        · refine k_iconst (v := 1) dX8_putNumber_31 (rfl : 31 + 1 = 32) (by decide) ?_
          refine k_goto (tgt := 36) dX8_putNumber_32 (by decide) ?_
          refine k_istore_n (i := 2) dX8_putNumber_36 (rfl : 36 + 1 = 37) rfl (Nat.le_of_ble_eq_true rfl) ?_
          refine k_ls (ls2 := [.ref 113, .int a, .int 1, .int (pwT j), .int ((a / (pwT j)) - (a / (pwT j)) / 10 * 10)]) rfl ?_
          refine k_iload_n (i := 2) dX8_putNumber_37 (rfl : 37 + 1 = 38) rfl rfl ?_
          refine k_if_eq (tgt := 51) dX8_putNumber_38 (rfl : 38 + 3 = 41) (by decide) (fun b38 => by exact absurd b38 (by decide)) (fun b38 => ?_)
          refine k_aload_n (i := 0) dX8_putNumber_41 (rfl : 41 + 1 = 42) rfl rfl ?_
          refine k_bipush (v := 48) dX8_putNumber_42 (rfl : 42 + 2 = 44) (by decide) ?_
          refine k_iload (i := 4) dX8_putNumber_44 (rfl : 44 + 2 = 46) rfl ?_
          refine k_iadd dX8_putNumber_46 (rfl : 46 + 1 = 47) ?_
          refine k_i2c dX8_putNumber_47 (rfl : 47 + 1 = 48) ?_
          refine k_callVv1 cv_X8_18 ⟨Nat.le_of_ble_eq_true rfl, Nat.le_of_ble_eq_true rfl⟩ (m_X8_put hl) dX8_putNumber_48 (rfl : 48 + 3 = 51) (Nat.le_of_ble_eq_true rfl) rfl rfl rfl ⟨Nat.le_of_ble_eq_true rfl, Nat.le_of_ble_eq_true rfl⟩ ?_
          refine k_iload_n (i := 3) dX8_putNumber_51 (rfl : 51 + 1 = 52) rfl rfl ?_
          refine k_bipush (v := 10) dX8_putNumber_52 (rfl : 52 + 2 = 54) (by decide) ?_
          refine k_idiv dX8_putNumber_54 (rfl : 54 + 1 = 55) (by decide) ?_
          refine k_istore_n (i := 3) dX8_putNumber_55 (rfl : 55 + 1 = 56) rfl (Nat.le_of_ble_eq_true rfl) ?_
          refine k_ls (ls2 := [.ref 113, .int a, .int 1, .int ((pwT j) / 10), .int ((a / (pwT j)) - (a / (pwT j)) / 10 * 10)]) rfl ?_
          refine k_ls (ls2 := [.ref 113, .int a, .int 1, .int (pwT (j + 1)), .int ((a / (pwT j)) - (a / (pwT j)) / 10 * 10)]) (by rw [show ((pwT j) / 10) = (pwT (j + 1)) from (pwT_s (by omega))]) ?_
          refine k_goto (tgt := 5) dX8_putNumber_56 (by decide) ?_
          rw [pnL, if_pos (show f = 0 from b18), if_pos (show ((a / (pwT j)) - (a / (pwT j)) / 10 * 10) = 0 from b23), if_pos (show (pwT j) = 1 from b28)]
          exact ih (g_X8_put x ((Int32.toUInt32 (48 + ((a / (pwT j)) - (a / (pwT j)) / 10 * 10)) % 65536).toInt32)) (j + 1) 1 _ (by omega) (put_ln hl)
set_option maxRecDepth 100000 in
set_option maxHeartbeats 4000000 in
theorem m_X8_putNumber {x : kK} {r : kH} {a : Int32} (hl : kLn x) : kMet kX8_putNumber false 0 0 [.ref 113, .int a] (kTp (kHc x) r) 130 (kRt none (kTp (kHc (pnL a 10 x 0 0)) r) 130) := by
  refine kMet.in (by decide) rfl rfl _ rfl ?_
  refine k_iconst (v := 0) dX8_putNumber_0 (rfl : 0 + 1 = 1) (by decide) ?_
  refine k_istore_n (i := 2) dX8_putNumber_1 (rfl : 1 + 1 = 2) rfl (Nat.le_of_ble_eq_true rfl) ?_
  refine k_ldc dX8_putNumber_2 (rfl : 2 + 2 = 4) kc_X8_17 ?_
  refine k_istore_n (i := 3) dX8_putNumber_4 (rfl : 4 + 1 = 5) rfl (Nat.le_of_ble_eq_true rfl) ?_
  exact lpnL 10 x 0 0 _ (by omega) hl
theorem pnL_ln {a : Int32} {k : Nat} : ∀ {x : kK} {j : Nat} {f : Int32}, kLn x → kLn (pnL a k x j f) := by
  induction k with
  | zero => intro x j f h; exact h
  | succ k ih =>
    intro x j f h
    rw [pnL]
    repeat' split
    all_goals first
      | exact ih h
      | exact ih (put_ln h)
def filR (n : Nat) (v : Int32) (f : Nat → Int32) : Nat → Int32 := fun j => if j < n then v else f j
set_option maxRecDepth 100000 in
set_option maxHeartbeats 4000000 in
theorem l_J7_fill {N i n : Nat} {v : Int32} {f : Nat → Int32} {h : kH} {Q : kQ} (hi : i < N) (hn : n < 2 ^ 31) (hQ : Q (.inl none) (kU h i (kI n (filR n v f))) N) : ∀ (k j : Nat), j + k = n → kEv kJ7_fill_53178 (kRm kJ7_fill_53178 0 0) (kFm false 0 0 (Q)) false 5 [.ref i, .int v, .int (nI j), .int (nI n)] [] (kU h i (kI n (filR j v f))) N 0 0 := by
  intro k
  induction k with
  | zero =>
    intro j hj
    obtain rfl : j = n := by omega
    refine k_iload_n (i := 2) dJ7_fill_53178_5 (rfl : 5 + 1 = 6) rfl rfl ?_
    refine k_iload_n (i := 3) dJ7_fill_53178_6 (rfl : 6 + 1 = 7) rfl rfl ?_
    refine k_icmp_ge (tgt := 20) dJ7_fill_53178_7 (rfl : 7 + 3 = 10) (by decide) (fun b7 => ?_) (fun b7 => by exact absurd (nI_le (a := j) (b := j) (by omega) (by omega)) b7)
    refine k_vret rfl dJ7_fill_53178_20 (Nat.le_of_ble_eq_true rfl) (Nat.le_of_ble_eq_true rfl) ?_
    exact hQ
  | succ k ih =>
    intro j hj
    refine k_iload_n (i := 2) dJ7_fill_53178_5 (rfl : 5 + 1 = 6) rfl rfl ?_
    refine k_iload_n (i := 3) dJ7_fill_53178_6 (rfl : 6 + 1 = 7) rfl rfl ?_
    refine k_icmp_ge (tgt := 20) dJ7_fill_53178_7 (rfl : 7 + 3 = 10) (by decide) (fun b7 => by exact absurd b7 (nI_ge (a := j) (b := n) (by omega) (by omega))) (fun b7 => ?_)
    refine k_aload_n (i := 0) dJ7_fill_53178_10 (rfl : 10 + 1 = 11) rfl rfl ?_
    refine k_iload_n (i := 2) dJ7_fill_53178_11 (rfl : 11 + 1 = 12) rfl rfl ?_
    refine k_iload_n (i := 1) dJ7_fill_53178_12 (rfl : 12 + 1 = 13) rfl rfl ?_
    refine k_iast (n := n) (f := filR j v f) dJ7_fill_53178_13 (rfl : 13 + 1 = 14) hi kU_s (vp_in_nI (by omega) hn) ?_
    refine k_iinc (i := 2) (v := nI (j + 1)) dJ7_fill_53178_14 (rfl : 14 + 3 = 17) rfl (Nat.le_of_ble_eq_true rfl) (nI_1 _) ?_
    refine k_ls (ls2 := [.ref i, .int v, .int (nI (j + 1)), .int (nI n)]) rfl ?_
    refine k_goto (tgt := 5) dJ7_fill_53178_17 (by decide) ?_
    rw [kU_kU, show upd (filR j v f) (nI j).toNatClampNeg v = filR (j + 1) v f from ?_]
    · exact ih (j + 1) (by omega)
    · rw [nI_clamp (by omega)]
      funext q
      unfold upd filR
      by_cases h1 : q = j
      · subst h1; simp
      · by_cases h2 : q < j
        · simp [h1, h2, show q < j + 1 by omega]
        · simp [h1, h2, show ¬ q < j + 1 by omega]
theorem m_J7_fill_53178 {N i n : Nat} {v : Int32} {f : Nat → Int32} {h : kH} (hi : i < N) (hn : n < 2 ^ 31) (he : h i = kI n f) : kMet kJ7_fill_53178 false 0 0 [.ref i, .int v] h N (kRt none (kU h i (kI n (filR n v f))) N) := by
  refine kMet.in (by decide) rfl rfl _ rfl ?_
  refine k_iconst (v := 0) dJ7_fill_53178_0 (rfl : 0 + 1 = 1) (by decide) ?_
  refine k_istore_n (i := 2) dJ7_fill_53178_1 (rfl : 1 + 1 = 2) rfl (Nat.le_of_ble_eq_true rfl) ?_
  refine k_aload_n (i := 0) dJ7_fill_53178_2 (rfl : 2 + 1 = 3) rfl rfl ?_
  refine k_alen (ty := .int) (t := 0) (n := n) (v := nI n) rfl dJ7_fill_53178_3 (rfl : 3 + 1 = 4) hi he rfl rfl ?_
  refine k_istore_n (i := 3) dJ7_fill_53178_4 (rfl : 4 + 1 = 5) rfl (Nat.le_of_ble_eq_true rfl) ?_
  refine k_ls (ls2 := [.ref i, .int v, .int (nI 0), .int (nI n)]) rfl ?_
  have e0 : kU h i (kI n (filR 0 v f)) = h := kU_self he
  have q := l_J7_fill (Q := kRt none (kU h i (kI n (filR n v f))) N) (f := f) (h := h) (v := v) hi hn kRt_rfl n 0 (by omega)
  rw [e0] at q
  exact q
/-- the queue of pleas holds places of pleas -/
def kQu (x : kK) : Prop := ∀ i, i < 8 → vp_in (x.2.2.1 1 i) 8
theorem kQu_at {x : kK} {a : Int32} (h : kQu x) (ha : vp_in a 8) : vp_in (x.2.2.1 1 a.toNatClampNeg) 8 := by
  refine h _ ?_
  have := vp_in_iff.mp ha
  show a.toInt.toNat < 8
  omega
theorem kQu_up {x : kK} {a v : Int32} (h : kQu x) (hv : vp_in v 8) : kQu (kkR x 1 (upd (x.2.2.1 1) a.toNatClampNeg v)) := by
  intro i hi
  show vp_in (upd (x.2.2.1 1) a.toNatClampNeg v i) 8
  unfold upd
  split
  · exact hv
  · exact h i hi
theorem pl_dn {p j : Nat} (hp : p < 8) (h : ¬ nI (p - j) ≤ 0) : vp_in (nI (p - j) - 1) 8 := by
  have h1 : p - j ≠ 0 := by
    intro q
    rw [q] at h
    exact h (by decide)
  obtain ⟨m, hm⟩ : ∃ m, p - j = m + 1 := ⟨p - j - 1, by omega⟩
  rw [hm, nI_pred]
  exact vp_in_nI (by omega) (by omega)
theorem pl_z {p j : Nat} (h : j = p) : nI (p - j) ≤ 0 := by
  rw [show p - j = 0 by omega]
  decide
theorem pl_nz {p j : Nat} (h : j < p) (hp : p < 8) : ¬ nI (p - j) ≤ 0 := by
  have h2 : ∀ m, m < 9 → ¬ m = 0 → ¬ nI m ≤ 0 := by decide
  exact h2 (p - j) (by omega) (by omega)
theorem pl_s {p j : Nat} (h : j < p) : nI (p - j) + (-1) = nI (p - (j + 1)) := by
  obtain ⟨m, hm⟩ : ∃ m, p - j = m + 1 := ⟨p - j - 1, by omega⟩
  rw [show p - (j + 1) = m by omega, hm, ← nI_pred m]
  exact (Int32.sub_eq_add_neg _ _).symm
def qfI (p : Nat) : Nat → kK → Nat → kK × Int32
  | 0, x, j => (x, (nI (p - j)))
  | k + 1, x, j => if (((x.1 0).2.2 2) (Int32.toNatClampNeg ((x.2.2.1 1) (Int32.toNatClampNeg ((nI (p - j)) - 1))))) ≤ (((x.1 0).2.2 2) (Int32.toNatClampNeg (nI p))) then (x, (nI (p - j))) else (qfI p k (kkR x 1 (upd (x.2.2.1 1) (Int32.toNatClampNeg (nI (p - j))) ((x.2.2.1 1) (Int32.toNatClampNeg ((nI (p - j)) - 1))))) (j + 1))
set_option maxRecDepth 100000 in
set_option maxHeartbeats 4000000 in
theorem lqfI {r : kH} {Q : kQ} {p : Nat}  (hp : p < 8) : ∀ (k : Nat) (x : kK) (j : Nat), j + k = p → kQu x → (kEv kX5_queueByFirstHour (kRm kX5_queueByFirstHour 0 0) (kFm false 0 0 (Q)) false 58 [.ref 104, .ref 4, .int (nI p), .int (qfI p k x j).2] [] (kTp (kHc (qfI p k x j).1) r) 130 0 0) → kEv kX5_queueByFirstHour (kRm kX5_queueByFirstHour 0 0) (kFm false 0 0 (Q)) false 12 [.ref 104, .ref 4, .int (nI p), .int (nI (p - j))] [] (kTp (kHc x) r) 130 0 0 := by
  intro k
  induction k with
  | zero =>
    intro x j hj hq hx
    refine k_iload_n (i := 3) dX5_queueByFirstHour_12 (rfl : 12 + 1 = 13) rfl rfl ?_
    refine k_if_le (tgt := 58) dX5_queueByFirstHour_13 (rfl : 13 + 3 = 16) (by decide) (fun b13 => ?_) (fun b13 => by exact absurd (pl_z (by omega)) b13)
    rw [qfI] at hx
    exact hx
  | succ k ih =>
    intro x j hj hq hx
    refine k_iload_n (i := 3) dX5_queueByFirstHour_12 (rfl : 12 + 1 = 13) rfl rfl ?_
    refine k_if_le (tgt := 58) dX5_queueByFirstHour_13 (rfl : 13 + 3 = 16) (by decide) (fun b13 => by exact absurd b13 (pl_nz (by omega) hp)) (fun b13 => ?_)
    refine k_aload_n (i := 1) dX5_queueByFirstHour_16 (rfl : 16 + 1 = 17) rfl rfl ?_
    refine k_get 3 4 fg_X5_45 dX5_queueByFirstHour_17 (rfl : 17 + 3 = 20) (Nat.le_of_ble_eq_true rfl) rfl rfl ?_
    refine k_aload_n (i := 0) dX5_queueByFirstHour_20 (rfl : 20 + 1 = 21) rfl rfl ?_
    refine k_get 5 0 fg_X5_9 dX5_queueByFirstHour_21 (rfl : 21 + 3 = 24) (Nat.le_of_ble_eq_true rfl) rfl rfl ?_
    refine k_iload_n (i := 3) dX5_queueByFirstHour_24 (rfl : 24 + 1 = 25) rfl rfl ?_
    refine k_iconst (v := 1) dX5_queueByFirstHour_25 (rfl : 25 + 1 = 26) (by decide) ?_
    refine k_isub dX5_queueByFirstHour_26 (rfl : 26 + 1 = 27) ?_
    refine k_iald dX5_queueByFirstHour_27 (rfl : 27 + 1 = 28) (Nat.le_of_ble_eq_true rfl) rfl (pl_dn hp b13) ?_
    refine k_iald dX5_queueByFirstHour_28 (rfl : 28 + 1 = 29) (Nat.le_of_ble_eq_true rfl) rfl (kQu_at hq (pl_dn hp b13)) ?_
    refine k_aload_n (i := 1) dX5_queueByFirstHour_29 (rfl : 29 + 1 = 30) rfl rfl ?_
    refine k_get 3 4 fg_X5_45 dX5_queueByFirstHour_30 (rfl : 30 + 3 = 33) (Nat.le_of_ble_eq_true rfl) rfl rfl ?_
    refine k_iload_n (i := 2) dX5_queueByFirstHour_33 (rfl : 33 + 1 = 34) rfl rfl ?_
    refine k_iald dX5_queueByFirstHour_34 (rfl : 34 + 1 = 35) (Nat.le_of_ble_eq_true rfl) rfl (vp_in_nI hp (by omega)) ?_
    refine k_icmp_le (tgt := 58) dX5_queueByFirstHour_35 (rfl : 35 + 3 = 38) (by decide) (fun b35 => ?_) (fun b35 => ?_)
    · rw [qfI, if_pos (show (((x.1 0).2.2 2) (Int32.toNatClampNeg ((x.2.2.1 1) (Int32.toNatClampNeg ((nI (p - j)) - 1))))) ≤ (((x.1 0).2.2 2) (Int32.toNatClampNeg (nI p))) from b35)] at hx
      exact hx
    · refine k_aload_n (i := 0) dX5_queueByFirstHour_38 (rfl : 38 + 1 = 39) rfl rfl ?_
      refine k_get 5 0 fg_X5_9 dX5_queueByFirstHour_39 (rfl : 39 + 3 = 42) (Nat.le_of_ble_eq_true rfl) rfl rfl ?_
      refine k_iload_n (i := 3) dX5_queueByFirstHour_42 (rfl : 42 + 1 = 43) rfl rfl ?_
      refine k_aload_n (i := 0) dX5_queueByFirstHour_43 (rfl : 43 + 1 = 44) rfl rfl ?_
      refine k_get 5 0 fg_X5_9 dX5_queueByFirstHour_44 (rfl : 44 + 3 = 47) (Nat.le_of_ble_eq_true rfl) rfl rfl ?_
      refine k_iload_n (i := 3) dX5_queueByFirstHour_47 (rfl : 47 + 1 = 48) rfl rfl ?_
      refine k_iconst (v := 1) dX5_queueByFirstHour_48 (rfl : 48 + 1 = 49) (by decide) ?_
      refine k_isub dX5_queueByFirstHour_49 (rfl : 49 + 1 = 50) ?_
      refine k_iald dX5_queueByFirstHour_50 (rfl : 50 + 1 = 51) (Nat.le_of_ble_eq_true rfl) rfl (pl_dn hp b13) ?_
      refine k_iast dX5_queueByFirstHour_51 (rfl : 51 + 1 = 52) (Nat.le_of_ble_eq_true rfl) rfl (vp_in_nI (by omega) (by omega)) ?_
      refine kf_X1 (f := (upd (x.2.2.1 1) (Int32.toNatClampNeg (nI (p - j))) ((x.2.2.1 1) (Int32.toNatClampNeg ((nI (p - j)) - 1))))) rfl ?_
      refine k_iinc (i := 3) (v := (nI (p - (j + 1)))) dX5_queueByFirstHour_52 (rfl : 52 + 3 = 55) rfl (Nat.le_of_ble_eq_true rfl) ((pl_s (by omega))) ?_
      refine k_ls (ls2 := [.ref 104, .ref 4, .int (nI p), .int (nI (p - (j + 1)))]) rfl ?_
      refine k_goto (tgt := 12) dX5_queueByFirstHour_55 (by decide) ?_
      rw [qfI, if_neg (show ¬ ((((x.1 0).2.2 2) (Int32.toNatClampNeg ((x.2.2.1 1) (Int32.toNatClampNeg ((nI (p - j)) - 1))))) ≤ (((x.1 0).2.2 2) (Int32.toNatClampNeg (nI p)))) from b35)] at hx
      exact ih (kkR x 1 (upd (x.2.2.1 1) (Int32.toNatClampNeg (nI (p - j))) ((x.2.2.1 1) (Int32.toNatClampNeg ((nI (p - j)) - 1))))) (j + 1) (by omega) (kQu_up hq (kQu_at hq (pl_dn hp b13))) hx
theorem qfI_core {p k : Nat} : ∀ {x : kK} {j : Nat}, (qfI p k x j).1.1 = x.1 := by
  induction k with
  | zero => intro x j; rfl
  | succ k ih =>
    intro x j
    rw [qfI]
    split
    · rfl
    · rw [ih]; rfl
theorem qfI_qu {p k : Nat} (hp : p < 8) : ∀ {x : kK} {j : Nat}, j + k = p → kQu x → kQu (qfI p k x j).1 := by
  induction k with
  | zero => intro x j _ h; exact h
  | succ k ih =>
    intro x j hj h
    rw [qfI]
    split
    · exact h
    · exact ih (by omega) (kQu_up h (kQu_at h (pl_dn hp (pl_nz (by omega) hp))))
theorem qfI_pl {p k : Nat} (hp : p < 8) : ∀ {x : kK} {j : Nat}, vp_in (qfI p k x j).2 8 := by
  induction k with
  | zero => intro x j; exact vp_in_nI (by omega) (by omega)
  | succ k ih =>
    intro x j
    rw [qfI]
    split
    · exact vp_in_nI (by omega) (by omega)
    · exact ih
theorem iv_pl {c : kCo} (iv : kIv c) : (c.2.1 6).toNatClampNeg ≤ 8 := by
  obtain ⟨n, hn, e⟩ := iv.2.1
  rw [e, nI_clamp (by omega)]
  exact hn
/-- the pleas -/
def kPn (x : kK) : Nat := ((x.1 0).2.1 6).toNatClampNeg
def qfL (c : Int32) : Nat → kK → Nat → kK
  | 0, x, j => x
  | k + 1, x, j => (qfL c k (kkR (qfI j j x 0).1 1 (upd ((qfI j j x 0).1.2.2.1 1) (Int32.toNatClampNeg (qfI j j x 0).2) (nI j))) (j + 1))
set_option maxRecDepth 100000 in
set_option maxHeartbeats 4000000 in
theorem lqfL {r : kH} {c : Int32}  (hc : c.toNatClampNeg ≤ 8) : ∀ (k : Nat) (x : kK) (j : Nat) (t3 : Value), j + k = (Int32.toNatClampNeg c) → (x.1 0).2.1 6 = c → kQu x → kEv kX5_queueByFirstHour (kRm kX5_queueByFirstHour 0 0) (kFm false 0 0 ((kRt none (kTp (kHc (qfL c k x j)) r) 130))) false 2 [.ref 104, .ref 4, .int (nI j), t3] [] (kTp (kHc x) r) 130 0 0 := by
  intro k
  induction k with
  | zero =>
    intro x j t3 hj en hq
    refine k_iload_n (i := 2) dX5_queueByFirstHour_2 (rfl : 2 + 1 = 3) rfl rfl ?_
    refine k_aload_n (i := 1) dX5_queueByFirstHour_3 (rfl : 3 + 1 = 4) rfl rfl ?_
    refine k_get 3 2 fg_X5_34 dX5_queueByFirstHour_4 (rfl : 4 + 3 = 7) (Nat.le_of_ble_eq_true rfl) rfl rfl ?_
    refine k_icmp_ge (tgt := 71) dX5_queueByFirstHour_7 (rfl : 7 + 3 = 10) (by decide) (fun b7 => ?_) (fun b7 => by exact absurd (by rw [en]; exact cl_le (by omega)) b7)
    refine k_vret rfl dX5_queueByFirstHour_71 (Nat.le_of_ble_eq_true rfl) (Nat.le_of_ble_eq_true rfl) ?_
    have e9 : (qfL c 0 x j) = x := by rw [qfL]
    exact kRt_of rfl (congrArg (fun z => kTp (kHc z) r) (Eq.symm e9))
  | succ k ih =>
    intro x j t3 hj en hq
    refine k_iload_n (i := 2) dX5_queueByFirstHour_2 (rfl : 2 + 1 = 3) rfl rfl ?_
    refine k_aload_n (i := 1) dX5_queueByFirstHour_3 (rfl : 3 + 1 = 4) rfl rfl ?_
    refine k_get 3 2 fg_X5_34 dX5_queueByFirstHour_4 (rfl : 4 + 3 = 7) (Nat.le_of_ble_eq_true rfl) rfl rfl ?_
    refine k_icmp_ge (tgt := 71) dX5_queueByFirstHour_7 (rfl : 7 + 3 = 10) (by decide) (fun b7 => by exact absurd (by rw [en] at b7; exact b7) (cl_nle (by omega))) (fun b7 => ?_)
    refine k_iload_n (i := 2) dX5_queueByFirstHour_10 (rfl : 10 + 1 = 11) rfl rfl ?_
    refine k_istore_n (i := 3) dX5_queueByFirstHour_11 (rfl : 11 + 1 = 12) rfl (Nat.le_of_ble_eq_true rfl) ?_
    refine k_ls (ls2 := [.ref 104, .ref 4, .int (nI j), .int (nI j)]) rfl ?_
    refine lqfI (p := j) (by omega) j x 0 (by omega) hq (?_)
    generalize hw12 : (qfI j j x 0) = w12
    refine k_aload_n (i := 0) dX5_queueByFirstHour_58 (rfl : 58 + 1 = 59) rfl rfl ?_
    refine k_get 5 0 fg_X5_9 dX5_queueByFirstHour_59 (rfl : 59 + 3 = 62) (Nat.le_of_ble_eq_true rfl) rfl rfl ?_
    refine k_iload_n (i := 3) dX5_queueByFirstHour_62 (rfl : 62 + 1 = 63) rfl rfl ?_
    refine k_iload_n (i := 2) dX5_queueByFirstHour_63 (rfl : 63 + 1 = 64) rfl rfl ?_
    refine k_iast dX5_queueByFirstHour_64 (rfl : 64 + 1 = 65) (Nat.le_of_ble_eq_true rfl) rfl (by rw [← hw12]; exact qfI_pl (by omega)) ?_
    refine kf_X1 (f := (upd (w12.1.2.2.1 1) (Int32.toNatClampNeg w12.2) (nI j))) rfl ?_
    refine k_iinc (i := 2) (v := (nI (j + 1))) dX5_queueByFirstHour_65 (rfl : 65 + 3 = 68) rfl (Nat.le_of_ble_eq_true rfl) (nI_1 _) ?_
    refine k_ls (ls2 := [.ref 104, .ref 4, .int (nI (j + 1)), .int w12.2]) rfl ?_
    refine k_goto (tgt := 2) dX5_queueByFirstHour_68 (by decide) ?_
    subst hw12
    rw [qfL]
    exact ih (kkR (qfI j j x 0).1 1 (upd ((qfI j j x 0).1.2.2.1 1) (Int32.toNatClampNeg (qfI j j x 0).2) (nI j))) (j + 1) _ (by omega) (by show ((qfI j j x 0).1.1 0).2.1 6 = c; rw [qfI_core]; exact en) (kQu_up (qfI_qu (by omega) (by omega) hq) (vp_in_nI (by omega) (by omega)))
set_option maxRecDepth 100000 in
set_option maxHeartbeats 4000000 in
theorem m_X5_queueByFirstHour {x : kK} {r : kH} (iv : kIv (x.1 0)) (hq : kQu x) : kMet kX5_queueByFirstHour false 0 0 [.ref 104, .ref 4] (kTp (kHc x) r) 130 (kRt none (kTp (kHc (qfL ((x.1 0).2.1 6) (kPn x) x 0)) r) 130) := by
  refine kMet.in (by decide) rfl rfl _ rfl ?_
  refine k_iconst (v := 0) dX5_queueByFirstHour_0 (rfl : 0 + 1 = 1) (by decide) ?_
  refine k_istore_n (i := 2) dX5_queueByFirstHour_1 (rfl : 1 + 1 = 2) rfl (Nat.le_of_ble_eq_true rfl) ?_
  exact lqfL (iv_pl iv) (kPn x) x 0 _ (by show 0 + kPn x = _; unfold kPn; omega) rfl hq
theorem qfL_core {c : Int32} {k : Nat} : ∀ {x : kK} {j : Nat}, (qfL c k x j).1 = x.1 := by
  induction k with
  | zero => intro x j; rfl
  | succ k ih =>
    intro x j
    rw [qfL, ih]
    show (qfI j j x 0).1.1 = x.1
    exact qfI_core
theorem qfL_qu {c : Int32} {k : Nat} : ∀ {x : kK} {j : Nat}, j + k ≤ 8 → kQu x → kQu (qfL c k x j) := by
  induction k with
  | zero => intro x j _ h; exact h
  | succ k ih =>
    intro x j hj h
    rw [qfL]
    exact ih (by omega) (kQu_up (qfI_qu (by omega) (by omega) h) (vp_in_nI (by omega) (by omega)))
/-- the front of the queue -/
def kFr (c f : Int32) : Prop := f = nI f.toNatClampNeg ∧ f.toNatClampNeg ≤ c.toNatClampNeg
theorem kFr_nI {c : Int32} {j : Nat} (h : j ≤ c.toNatClampNeg) : kFr c (nI j) := by
  have := cl_lt c
  unfold kFr
  rw [nI_clamp (by omega)]
  exact ⟨rfl, h⟩
theorem kFr_lt {c f : Int32} (h : kFr c f) (h2 : ¬ c ≤ f) : f.toNatClampNeg < c.toNatClampNeg := by
  rcases Nat.lt_or_ge f.toNatClampNeg c.toNatClampNeg with q | q
  · exact q
  · have e : f.toNatClampNeg = c.toNatClampNeg := Nat.le_antisymm h.2 q
    refine absurd ?_ h2
    rw [h.1]
    exact cl_le e
theorem kFr_up {c f : Int32} (h : kFr c f) (h2 : ¬ c ≤ f) : kFr c (f + Int32.ofInt 1) := by
  have h3 := kFr_lt h h2
  rw [h.1, show nI f.toNatClampNeg + Int32.ofInt 1 = nI (f.toNatClampNeg + 1) from nI_1 _]
  exact kFr_nI h3
theorem kFr_in {c f : Int32} (h8 : c.toNatClampNeg ≤ 8) (h : kFr c f) (h2 : ¬ c ≤ f) : vp_in f 8 := by
  have h3 := kFr_lt h h2
  rw [h.1]
  exact vp_in_nI (by omega) (by omega)
def mqI (x : kK) (u : Int32) : Nat → Nat → Int32
  | 0, j => (nI j)
  | k + 1, j => if u ≤ (f_X3_lastHour x ((x.2.2.1 1) (Int32.toNatClampNeg (nI j)))) then (nI j) else (mqI x u k (j + 1))
set_option maxRecDepth 100000 in
set_option maxHeartbeats 4000000 in
theorem lmqI {x : kK} {r : kH} {Q : kQ} {u : Int32} {e : Int32} {i : Int32} (iv : kIv (x.1 0)) (hq : kQu x) : ∀ (k : Nat) (j : Nat), j + k = (Int32.toNatClampNeg ((x.1 0).2.1 6)) → (kEv kX5_mostByQueue (kRm kX5_mostByQueue 0 0) (kFm false 0 0 (Q)) false 57 [.ref 104, .ref 4, .int e, .int (mqI x u k j), .int i, .int u] [] (kTp (kHc x) r) 130 0 0) → kEv kX5_mostByQueue (kRm kX5_mostByQueue 0 0) (kFm false 0 0 (Q)) false 28 [.ref 104, .ref 4, .int e, .int (nI j), .int i, .int u] [] (kTp (kHc x) r) 130 0 0 := by
  intro k
  induction k with
  | zero =>
    intro j hj hx
    refine k_iload_n (i := 3) dX5_mostByQueue_28 (rfl : 28 + 1 = 29) rfl rfl ?_
    refine k_aload_n (i := 1) dX5_mostByQueue_29 (rfl : 29 + 1 = 30) rfl rfl ?_
    refine k_get 3 2 fg_X5_34 dX5_mostByQueue_30 (rfl : 30 + 3 = 33) (Nat.le_of_ble_eq_true rfl) rfl rfl ?_
    refine k_icmp_ge (tgt := 57) dX5_mostByQueue_33 (rfl : 33 + 3 = 36) (by decide) (fun b33 => ?_) (fun b33 => by exact absurd (cl_le (by omega)) b33)
    rw [mqI] at hx
    exact hx
  | succ k ih =>
    intro j hj hx
    refine k_iload_n (i := 3) dX5_mostByQueue_28 (rfl : 28 + 1 = 29) rfl rfl ?_
    refine k_aload_n (i := 1) dX5_mostByQueue_29 (rfl : 29 + 1 = 30) rfl rfl ?_
    refine k_get 3 2 fg_X5_34 dX5_mostByQueue_30 (rfl : 30 + 3 = 33) (Nat.le_of_ble_eq_true rfl) rfl rfl ?_
    refine k_icmp_ge (tgt := 57) dX5_mostByQueue_33 (rfl : 33 + 3 = 36) (by decide) (fun b33 => by exact absurd b33 (cl_nle (by omega))) (fun b33 => ?_)
    refine k_aload_n (i := 1) dX5_mostByQueue_36 (rfl : 36 + 1 = 37) rfl rfl ?_
    refine k_aload_n (i := 0) dX5_mostByQueue_37 (rfl : 37 + 1 = 38) rfl rfl ?_
    refine k_get 5 0 fg_X5_9 dX5_mostByQueue_38 (rfl : 38 + 3 = 41) (Nat.le_of_ble_eq_true rfl) rfl rfl ?_
    refine k_iload_n (i := 3) dX5_mostByQueue_41 (rfl : 41 + 1 = 42) rfl rfl ?_
    refine k_iald dX5_mostByQueue_42 (rfl : 42 + 1 = 43) (Nat.le_of_ble_eq_true rfl) rfl (by have := iv_pl iv; exact vp_in_nI (by omega) (by omega)) ?_
    refine k_callVd1 cv_X5_37 ⟨Nat.le_of_ble_eq_true rfl, Nat.le_of_ble_eq_true rfl⟩ (m_X3_lastHour (kQu_at hq (by have := iv_pl iv; exact vp_in_nI (by omega) (by omega)))) dX5_mostByQueue_43 (rfl : 43 + 3 = 46) (Nat.le_of_ble_eq_true rfl) rfl rfl rfl ⟨Nat.le_of_ble_eq_true rfl, Nat.le_of_ble_eq_true rfl⟩ ?_
    refine k_iload (i := 5) dX5_mostByQueue_46 (rfl : 46 + 2 = 48) rfl ?_
    refine k_icmp_ge (tgt := 57) dX5_mostByQueue_48 (rfl : 48 + 3 = 51) (by decide) (fun b48 => ?_) (fun b48 => ?_)
    · rw [mqI, if_pos (show u ≤ (f_X3_lastHour x ((x.2.2.1 1) (Int32.toNatClampNeg (nI j)))) from b48)] at hx
      exact hx
    · refine k_iinc (i := 3) (v := (nI (j + 1))) dX5_mostByQueue_51 (rfl : 51 + 3 = 54) rfl (Nat.le_of_ble_eq_true rfl) (nI_1 _) ?_
      refine k_ls (ls2 := [.ref 104, .ref 4, .int e, .int (nI (j + 1)), .int i, .int u]) rfl ?_
      refine k_goto (tgt := 28) dX5_mostByQueue_54 (by decide) ?_
      rw [mqI, if_neg (show ¬ (u ≤ (f_X3_lastHour x ((x.2.2.1 1) (Int32.toNatClampNeg (nI j))))) from b48)] at hx
      exact ih (j + 1) (by omega) hx
theorem mqI_fr {x : kK} {u : Int32} {k : Nat} : ∀ {j : Nat}, j + k = ((x.1 0).2.1 6).toNatClampNeg → kFr ((x.1 0).2.1 6) (mqI x u k j) := by
  induction k with
  | zero => intro j h; exact kFr_nI (by omega)
  | succ k ih =>
    intro j h
    rw [mqI]
    repeat' split
    all_goals first
      | exact ih (by omega)
      | exact kFr_nI (by omega)
def mqL (x : kK) : Nat → Nat → Int32 → Int32 → Int32
  | 0, j, e, f => e
  | k + 1, j, e, f => if ((x.1 0).2.1 6) ≤ (mqI x (((x.1 0).2.1 4) + (nI j)) (Int32.toNatClampNeg ((x.1 0).2.1 6) - Int32.toNatClampNeg f) (Int32.toNatClampNeg f)) then (mqL x k (j + 1) e (mqI x (((x.1 0).2.1 4) + (nI j)) (Int32.toNatClampNeg ((x.1 0).2.1 6) - Int32.toNatClampNeg f) (Int32.toNatClampNeg f))) else (if (f_X3_canBeHeard x ((x.2.2.1 1) (Int32.toNatClampNeg (mqI x (((x.1 0).2.1 4) + (nI j)) (Int32.toNatClampNeg ((x.1 0).2.1 6) - Int32.toNatClampNeg f) (Int32.toNatClampNeg f)))) (((x.1 0).2.1 4) + (nI j))) = 0 then (mqL x k (j + 1) e (mqI x (((x.1 0).2.1 4) + (nI j)) (Int32.toNatClampNeg ((x.1 0).2.1 6) - Int32.toNatClampNeg f) (Int32.toNatClampNeg f))) else (mqL x k (j + 1) (e + Int32.ofInt 1) ((mqI x (((x.1 0).2.1 4) + (nI j)) (Int32.toNatClampNeg ((x.1 0).2.1 6) - Int32.toNatClampNeg f) (Int32.toNatClampNeg f)) + Int32.ofInt 1)))
set_option maxRecDepth 100000 in
set_option maxHeartbeats 4000000 in
theorem lmqL {x : kK} {r : kH} {Q : kQ} (iv : kIv (x.1 0)) (hq : kQu x) : ∀ (k : Nat) (j : Nat) (e : Int32) (f : Int32) (t5 : Value), j + k = 33 → kFr ((x.1 0).2.1 6) f → (∀ (z4 : Value) (z3 : Value) (z5 : Value), kEv kX5_mostByQueue (kRm kX5_mostByQueue 0 0) (kFm false 0 0 (Q)) false 92 [.ref 104, .ref 4, .int (mqL x k j e f), z3, z4, z5] [] (kTp (kHc x) r) 130 0 0) → kEv kX5_mostByQueue (kRm kX5_mostByQueue 0 0) (kFm false 0 0 (Q)) false 12 [.ref 104, .ref 4, .int e, .int f, .int (nI j), t5] [] (kTp (kHc x) r) 130 0 0 := by
  intro k
  induction k with
  | zero =>
    intro j e f t5 hj hf hx
    refine k_iload (i := 4) dX5_mostByQueue_12 (rfl : 12 + 2 = 14) rfl ?_
    refine k_bipush (v := 33) dX5_mostByQueue_14 (rfl : 14 + 2 = 16) (by decide) ?_
    refine k_icmp_ge (tgt := 92) dX5_mostByQueue_16 (rfl : 16 + 3 = 19) (by decide) (fun b16 => ?_) (fun b16 => by exact absurd (nI_le (a := 33) (b := j) (by omega) (by omega)) b16)
    rw [mqL] at hx
    exact hx _ _ _
  | succ k ih =>
    intro j e f t5 hj hf hx
    refine k_iload (i := 4) dX5_mostByQueue_12 (rfl : 12 + 2 = 14) rfl ?_
    refine k_bipush (v := 33) dX5_mostByQueue_14 (rfl : 14 + 2 = 16) (by decide) ?_
    refine k_icmp_ge (tgt := 92) dX5_mostByQueue_16 (rfl : 16 + 3 = 19) (by decide) (fun b16 => by exact absurd b16 (nI_ge (a := j) (b := 33) (by omega) (by decide))) (fun b16 => ?_)
    refine k_aload_n (i := 1) dX5_mostByQueue_19 (rfl : 19 + 1 = 20) rfl rfl ?_
    refine k_get 3 0 fg_X5_28 dX5_mostByQueue_20 (rfl : 20 + 3 = 23) (Nat.le_of_ble_eq_true rfl) rfl rfl ?_
    refine k_iload (i := 4) dX5_mostByQueue_23 (rfl : 23 + 2 = 25) rfl ?_
    refine k_iadd dX5_mostByQueue_25 (rfl : 25 + 1 = 26) ?_
    refine k_istore (i := 5) dX5_mostByQueue_26 (rfl : 26 + 2 = 28) (Nat.le_of_ble_eq_true rfl) ?_
    refine k_ls (ls2 := [.ref 104, .ref 4, .int e, .int f, .int (nI j), .int (((x.1 0).2.1 4) + (nI j))]) rfl ?_
    refine k_ls (ls2 := [.ref 104, .ref 4, .int e, .int (nI (Int32.toNatClampNeg f)), .int (nI j), .int ((x.1 0).2.1 4 + nI j)]) (by rw [← hf.1]) ?_
    refine lmqI (u := (((x.1 0).2.1 4) + (nI j))) iv hq (Int32.toNatClampNeg ((x.1 0).2.1 6) - Int32.toNatClampNeg f) (Int32.toNatClampNeg f) (by have := hf.2; omega) (?_)
    generalize hw28 : (mqI x (((x.1 0).2.1 4) + (nI j)) (Int32.toNatClampNeg ((x.1 0).2.1 6) - Int32.toNatClampNeg f) (Int32.toNatClampNeg f)) = w28
    refine k_iload_n (i := 3) dX5_mostByQueue_57 (rfl : 57 + 1 = 58) rfl rfl ?_
    refine k_aload_n (i := 1) dX5_mostByQueue_58 (rfl : 58 + 1 = 59) rfl rfl ?_
    refine k_get 3 2 fg_X5_34 dX5_mostByQueue_59 (rfl : 59 + 3 = 62) (Nat.le_of_ble_eq_true rfl) rfl rfl ?_
    refine k_icmp_ge (tgt := 86) dX5_mostByQueue_62 (rfl : 62 + 3 = 65) (by decide) (fun b62 => ?_) (fun b62 => ?_)
    · refine k_iinc (i := 4) (v := (nI (j + 1))) dX5_mostByQueue_86 (rfl : 86 + 3 = 89) rfl (Nat.le_of_ble_eq_true rfl) (nI_1 _) ?_
      refine k_ls (ls2 := [.ref 104, .ref 4, .int e, .int w28, .int (nI (j + 1)), .int (((x.1 0).2.1 4) + (nI j))]) rfl ?_
      refine k_goto (tgt := 12) dX5_mostByQueue_89 (by decide) ?_
      subst hw28
      rw [mqL, if_pos (show ((x.1 0).2.1 6) ≤ (mqI x (((x.1 0).2.1 4) + (nI j)) (Int32.toNatClampNeg ((x.1 0).2.1 6) - Int32.toNatClampNeg f) (Int32.toNatClampNeg f)) from b62)] at hx
      exact ih (j + 1) e (mqI x (((x.1 0).2.1 4) + (nI j)) (Int32.toNatClampNeg ((x.1 0).2.1 6) - Int32.toNatClampNeg f) (Int32.toNatClampNeg f)) _ (by omega) (mqI_fr (by have := hf.2; omega)) hx
    · refine k_aload_n (i := 1) dX5_mostByQueue_65 (rfl : 65 + 1 = 66) rfl rfl ?_
      refine k_aload_n (i := 0) dX5_mostByQueue_66 (rfl : 66 + 1 = 67) rfl rfl ?_
      refine k_get 5 0 fg_X5_9 dX5_mostByQueue_67 (rfl : 67 + 3 = 70) (Nat.le_of_ble_eq_true rfl) rfl rfl ?_
      refine k_iload_n (i := 3) dX5_mostByQueue_70 (rfl : 70 + 1 = 71) rfl rfl ?_
      refine k_iald dX5_mostByQueue_71 (rfl : 71 + 1 = 72) (Nat.le_of_ble_eq_true rfl) rfl (kFr_in (iv_pl iv) (by rw [← hw28]; exact (mqI_fr (by have := hf.2; omega))) b62) ?_
      refine k_iload (i := 5) dX5_mostByQueue_72 (rfl : 72 + 2 = 74) rfl ?_
      refine k_callVd2 cv_X5_41 ⟨Nat.le_of_ble_eq_true rfl, Nat.le_of_ble_eq_true rfl⟩ (m_X3_canBeHeard (kQu_at hq (kFr_in (iv_pl iv) (by rw [← hw28]; exact (mqI_fr (by have := hf.2; omega))) b62))) dX5_mostByQueue_74 (rfl : 74 + 3 = 77) (Nat.le_of_ble_eq_true rfl) rfl rfl rfl ⟨Nat.le_of_ble_eq_true rfl, Nat.le_of_ble_eq_true rfl⟩ ?_
      refine k_if_eq (tgt := 86) dX5_mostByQueue_77 (rfl : 77 + 3 = 80) (by decide) (fun b77 => ?_) (fun b77 => ?_)
      · refine k_iinc (i := 4) (v := (nI (j + 1))) dX5_mostByQueue_86 (rfl : 86 + 3 = 89) rfl (Nat.le_of_ble_eq_true rfl) (nI_1 _) ?_
        refine k_ls (ls2 := [.ref 104, .ref 4, .int e, .int w28, .int (nI (j + 1)), .int (((x.1 0).2.1 4) + (nI j))]) rfl ?_
        refine k_goto (tgt := 12) dX5_mostByQueue_89 (by decide) ?_
        subst hw28
        rw [mqL, if_neg (show ¬ (((x.1 0).2.1 6) ≤ (mqI x (((x.1 0).2.1 4) + (nI j)) (Int32.toNatClampNeg ((x.1 0).2.1 6) - Int32.toNatClampNeg f) (Int32.toNatClampNeg f))) from b62), if_pos (show (f_X3_canBeHeard x ((x.2.2.1 1) (Int32.toNatClampNeg (mqI x (((x.1 0).2.1 4) + (nI j)) (Int32.toNatClampNeg ((x.1 0).2.1 6) - Int32.toNatClampNeg f) (Int32.toNatClampNeg f)))) (((x.1 0).2.1 4) + (nI j))) = 0 from b77)] at hx
        exact ih (j + 1) e (mqI x (((x.1 0).2.1 4) + (nI j)) (Int32.toNatClampNeg ((x.1 0).2.1 6) - Int32.toNatClampNeg f) (Int32.toNatClampNeg f)) _ (by omega) (mqI_fr (by have := hf.2; omega)) hx
      · refine k_iinc (i := 3) dX5_mostByQueue_80 (rfl : 80 + 3 = 83) rfl (Nat.le_of_ble_eq_true rfl) rfl ?_
        refine k_ls (ls2 := [.ref 104, .ref 4, .int e, .int (w28 + Int32.ofInt 1), .int (nI j), .int (((x.1 0).2.1 4) + (nI j))]) rfl ?_
        refine k_iinc (i := 2) dX5_mostByQueue_83 (rfl : 83 + 3 = 86) rfl (Nat.le_of_ble_eq_true rfl) rfl ?_
        refine k_ls (ls2 := [.ref 104, .ref 4, .int (e + Int32.ofInt 1), .int (w28 + Int32.ofInt 1), .int (nI j), .int (((x.1 0).2.1 4) + (nI j))]) rfl ?_
        refine k_iinc (i := 4) (v := (nI (j + 1))) dX5_mostByQueue_86 (rfl : 86 + 3 = 89) rfl (Nat.le_of_ble_eq_true rfl) (nI_1 _) ?_
        refine k_ls (ls2 := [.ref 104, .ref 4, .int (e + Int32.ofInt 1), .int (w28 + Int32.ofInt 1), .int (nI (j + 1)), .int (((x.1 0).2.1 4) + (nI j))]) rfl ?_
        refine k_goto (tgt := 12) dX5_mostByQueue_89 (by decide) ?_
        subst hw28
        rw [mqL, if_neg (show ¬ (((x.1 0).2.1 6) ≤ (mqI x (((x.1 0).2.1 4) + (nI j)) (Int32.toNatClampNeg ((x.1 0).2.1 6) - Int32.toNatClampNeg f) (Int32.toNatClampNeg f))) from b62), if_neg (show ¬ ((f_X3_canBeHeard x ((x.2.2.1 1) (Int32.toNatClampNeg (mqI x (((x.1 0).2.1 4) + (nI j)) (Int32.toNatClampNeg ((x.1 0).2.1 6) - Int32.toNatClampNeg f) (Int32.toNatClampNeg f)))) (((x.1 0).2.1 4) + (nI j))) = 0) from b77)] at hx
        exact ih (j + 1) (e + Int32.ofInt 1) ((mqI x (((x.1 0).2.1 4) + (nI j)) (Int32.toNatClampNeg ((x.1 0).2.1 6) - Int32.toNatClampNeg f) (Int32.toNatClampNeg f)) + Int32.ofInt 1) _ (by omega) (kFr_up (mqI_fr (by have := hf.2; omega)) b62) hx
def f_X5_mostByQueue (x : kK)  : Int32 := (mqL (qfL ((x.1 0).2.1 6) (kPn x) x 0) 33 0 0 0)
def g_X5_mostByQueue (x : kK)  : kK := (qfL ((x.1 0).2.1 6) (kPn x) x 0)
set_option maxRecDepth 100000 in
set_option maxHeartbeats 4000000 in
theorem m_X5_mostByQueue {x : kK} {r : kH} (iv : kIv (x.1 0)) (hq : kQu x) : kMet kX5_mostByQueue false 0 0 [.ref 104, .ref 4] (kTp (kHc x) r) 130 (kRt (some (.int (f_X5_mostByQueue x ))) (kTp (kHc (g_X5_mostByQueue x )) r) 130) := by
  refine kMet.in (by decide) rfl rfl _ rfl ?_
  refine k_aload_n (i := 0) dX5_mostByQueue_0 (rfl : 0 + 1 = 1) rfl rfl ?_
  refine k_aload_n (i := 1) dX5_mostByQueue_1 (rfl : 1 + 1 = 2) rfl rfl ?_
  refine k_callVv1 cv_X5_24 ⟨Nat.le_of_ble_eq_true rfl, Nat.le_of_ble_eq_true rfl⟩ (m_X5_queueByFirstHour iv hq) dX5_mostByQueue_2 (rfl : 2 + 3 = 5) (Nat.le_of_ble_eq_true rfl) rfl rfl rfl ⟨Nat.le_of_ble_eq_true rfl, Nat.le_of_ble_eq_true rfl⟩ ?_
  generalize hg1 : (qfL ((x.1 0).2.1 6) (kPn x) x 0) = y1
  refine k_iconst (v := 0) dX5_mostByQueue_5 (rfl : 5 + 1 = 6) (by decide) ?_
  refine k_istore_n (i := 2) dX5_mostByQueue_6 (rfl : 6 + 1 = 7) rfl (Nat.le_of_ble_eq_true rfl) ?_
  refine k_ls (ls2 := [.ref 104, .ref 4, .int 0, .retAddr 0, .retAddr 0, .retAddr 0]) rfl ?_
  refine k_iconst (v := 0) dX5_mostByQueue_7 (rfl : 7 + 1 = 8) (by decide) ?_
  refine k_istore_n (i := 3) dX5_mostByQueue_8 (rfl : 8 + 1 = 9) rfl (Nat.le_of_ble_eq_true rfl) ?_
  refine k_ls (ls2 := [.ref 104, .ref 4, .int 0, .int 0, .retAddr 0, .retAddr 0]) rfl ?_
  refine k_iconst (v := 0) dX5_mostByQueue_9 (rfl : 9 + 1 = 10) (by decide) ?_
  refine k_istore (i := 4) dX5_mostByQueue_10 (rfl : 10 + 2 = 12) (Nat.le_of_ble_eq_true rfl) ?_
  refine k_ls (ls2 := [.ref 104, .ref 4, .int 0, .int 0, .int 0, .retAddr 0]) rfl ?_
  refine lmqL (by rw [← hg1, qfL_core]; exact iv) (by rw [← hg1]; exact qfL_qu (by have := iv_pl iv; unfold kPn; omega) hq) 33 0 0 0 _ (by omega) (kFr_nI (j := 0) (Nat.zero_le _)) (fun z4 z3 z5 => ?_)
  generalize hw12 : (mqL y1 33 0 0 0) = w12
  refine k_iload_n (i := 2) dX5_mostByQueue_92 (rfl : 92 + 1 = 93) rfl rfl ?_
  refine k_iret rfl rfl dX5_mostByQueue_93 (Nat.le_of_ble_eq_true rfl) (Nat.le_of_ble_eq_true rfl) ?_
  subst hw12
  subst hg1
  exact kRt_of rfl rfl
/-- nothing, or a place -/
def mOr (v : Int32) (n : Nat) : Prop := v = (-1) ∨ vp_in v n
theorem mO_at {f : Nat → Int32} {n m : Nat} {a : Int32} (h : ∀ j, j < n → mOr (f j) m) (ha : vp_in a n) : mOr (f a.toNatClampNeg) m := by
  refine h _ ?_
  have := vp_in_iff.mp ha
  show a.toInt.toNat < n
  omega
theorem mO_up {f : Nat → Int32} {n m i : Nat} {v : Int32} (h : ∀ j, j < n → mOr (f j) m) (hv : mOr v m) : ∀ j, j < n → mOr (upd f i v j) m := by
  intro j hj
  unfold upd
  split
  · exact hv
  · exact h j hj
theorem mO_in {v : Int32} {n : Nat} (h : mOr v n) (h1 : ¬ v = (-1)) : vp_in v n := by
  rcases h with h | h
  · exact absurd h h1
  · exact h
def kChn (x : kK) : Prop := (∀ j, j < 33 → mOr (x.2.2.1 4 j) 8) ∧ (∀ j, j < 8 → mOr (x.2.2.1 2 j) 33) ∧ (∀ j, j < 33 → mOr (x.2.2.1 3 j) 8) ∧ kQu x
def ghL : Nat → kK → Nat → Int32 → kK
  | 0, x, j, u => x
  | k + 1, x, j, u => if u = (-1) then x else (if ((x.2.2.1 4) (Int32.toNatClampNeg u)) = (-1) then x else (ghL k (kkR (kkR x 3 (upd (x.2.2.1 3) (Int32.toNatClampNeg u) ((x.2.2.1 4) (Int32.toNatClampNeg u)))) 2 (upd (x.2.2.1 2) (Int32.toNatClampNeg ((x.2.2.1 4) (Int32.toNatClampNeg u))) u)) (j + 1) ((x.2.2.1 2) (Int32.toNatClampNeg ((x.2.2.1 4) (Int32.toNatClampNeg u))))))
set_option maxRecDepth 100000 in
set_option maxHeartbeats 4000000 in
theorem lghL {r : kH} {a : Int32}  : ∀ (k : Nat) (x : kK) (j : Nat) (u : Int32) (t4 : Value) (t5 : Value), j + k = 8 → kChn x → mOr u 33 → kEv kX5_giveHoursAlongChain (kRm kX5_giveHoursAlongChain 0 0) (kFm false 0 0 ((kRt none (kTp (kHc (ghL k x j u)) r) 130))) false 4 [.ref 104, .int a, .int u, .int (nI j), t4, t5] [] (kTp (kHc x) r) 130 0 0 := by
  intro k
  induction k with
  | zero =>
    intro x j u t4 t5 hj hc hh
    refine k_iload_n (i := 3) dX5_giveHoursAlongChain_4 (rfl : 4 + 1 = 5) rfl rfl ?_
    refine k_bipush (v := 8) dX5_giveHoursAlongChain_5 (rfl : 5 + 2 = 7) (by decide) ?_
    refine k_icmp_ge (tgt := 64) dX5_giveHoursAlongChain_7 (rfl : 7 + 3 = 10) (by decide) (fun b7 => ?_) (fun b7 => by exact absurd (nI_le (a := 8) (b := j) (by omega) (by omega)) b7)
    refine k_vret rfl dX5_giveHoursAlongChain_64 (Nat.le_of_ble_eq_true rfl) (Nat.le_of_ble_eq_true rfl) ?_
    have e9 : (ghL 0 x j u) = x := by rw [ghL]
    exact kRt_of rfl (congrArg (fun z => kTp (kHc z) r) (Eq.symm e9))
  | succ k ih =>
    intro x j u t4 t5 hj hc hh
    refine k_iload_n (i := 3) dX5_giveHoursAlongChain_4 (rfl : 4 + 1 = 5) rfl rfl ?_
    refine k_bipush (v := 8) dX5_giveHoursAlongChain_5 (rfl : 5 + 2 = 7) (by decide) ?_
    refine k_icmp_ge (tgt := 64) dX5_giveHoursAlongChain_7 (rfl : 7 + 3 = 10) (by decide) (fun b7 => by exact absurd b7 (nI_ge (a := j) (b := 8) (by omega) (by decide))) (fun b7 => ?_)
    refine k_iload_n (i := 2) dX5_giveHoursAlongChain_10 (rfl : 10 + 1 = 11) rfl rfl ?_
    refine k_iconst (v := (-1)) dX5_giveHoursAlongChain_11 (rfl : 11 + 1 = 12) (by decide) ?_
    refine k_icmp_eq (tgt := 64) dX5_giveHoursAlongChain_12 (rfl : 12 + 3 = 15) (by decide) (fun b12 => ?_) (fun b12 => ?_)
    · refine k_vret rfl dX5_giveHoursAlongChain_64 (Nat.le_of_ble_eq_true rfl) (Nat.le_of_ble_eq_true rfl) ?_
      have e9 : (ghL (k + 1) x j u) = x := by rw [ghL, if_pos (show u = (-1) from b12)]
      exact kRt_of rfl (congrArg (fun z => kTp (kHc z) r) (Eq.symm e9))
    · refine k_aload_n (i := 0) dX5_giveHoursAlongChain_15 (rfl : 15 + 1 = 16) rfl rfl ?_
      refine k_get 5 3 fg_X5_21 dX5_giveHoursAlongChain_16 (rfl : 16 + 3 = 19) (Nat.le_of_ble_eq_true rfl) rfl rfl ?_
      refine k_iload_n (i := 2) dX5_giveHoursAlongChain_19 (rfl : 19 + 1 = 20) rfl rfl ?_
      refine k_iald dX5_giveHoursAlongChain_20 (rfl : 20 + 1 = 21) (Nat.le_of_ble_eq_true rfl) rfl (mO_in hh b12) ?_
      refine k_istore (i := 4) dX5_giveHoursAlongChain_21 (rfl : 21 + 2 = 23) (Nat.le_of_ble_eq_true rfl) ?_
      refine k_ls (ls2 := [.ref 104, .int a, .int u, .int (nI j), .int ((x.2.2.1 4) (Int32.toNatClampNeg u)), t5]) rfl ?_
      refine k_iload (i := 4) dX5_giveHoursAlongChain_23 (rfl : 23 + 2 = 25) rfl ?_
      refine k_iconst (v := (-1)) dX5_giveHoursAlongChain_25 (rfl : 25 + 1 = 26) (by decide) ?_
      refine k_icmp_ne (tgt := 30) dX5_giveHoursAlongChain_26 (rfl : 26 + 3 = 29) (by decide) (fun b26 => ?_) (fun b26 => ?_)
      · refine k_aload_n (i := 0) dX5_giveHoursAlongChain_30 (rfl : 30 + 1 = 31) rfl rfl ?_
        refine k_get 5 1 fg_X5_15 dX5_giveHoursAlongChain_31 (rfl : 31 + 3 = 34) (Nat.le_of_ble_eq_true rfl) rfl rfl ?_
        refine k_iload (i := 4) dX5_giveHoursAlongChain_34 (rfl : 34 + 2 = 36) rfl ?_
        refine k_iald dX5_giveHoursAlongChain_36 (rfl : 36 + 1 = 37) (Nat.le_of_ble_eq_true rfl) rfl (mO_in (mO_at hc.1 (mO_in hh b12)) b26) ?_
        refine k_istore (i := 5) dX5_giveHoursAlongChain_37 (rfl : 37 + 2 = 39) (Nat.le_of_ble_eq_true rfl) ?_
        refine k_ls (ls2 := [.ref 104, .int a, .int u, .int (nI j), .int ((x.2.2.1 4) (Int32.toNatClampNeg u)), .int ((x.2.2.1 2) (Int32.toNatClampNeg ((x.2.2.1 4) (Int32.toNatClampNeg u))))]) rfl ?_
        refine k_aload_n (i := 0) dX5_giveHoursAlongChain_39 (rfl : 39 + 1 = 40) rfl rfl ?_
        refine k_get 5 2 fg_X5_18 dX5_giveHoursAlongChain_40 (rfl : 40 + 3 = 43) (Nat.le_of_ble_eq_true rfl) rfl rfl ?_
        refine k_iload_n (i := 2) dX5_giveHoursAlongChain_43 (rfl : 43 + 1 = 44) rfl rfl ?_
        refine k_iload (i := 4) dX5_giveHoursAlongChain_44 (rfl : 44 + 2 = 46) rfl ?_
        refine k_iast dX5_giveHoursAlongChain_46 (rfl : 46 + 1 = 47) (Nat.le_of_ble_eq_true rfl) rfl (mO_in hh b12) ?_
        refine kf_X3 (f := (upd (x.2.2.1 3) (Int32.toNatClampNeg u) ((x.2.2.1 4) (Int32.toNatClampNeg u)))) rfl ?_
        refine k_aload_n (i := 0) dX5_giveHoursAlongChain_47 (rfl : 47 + 1 = 48) rfl rfl ?_
        refine k_get 5 1 fg_X5_15 dX5_giveHoursAlongChain_48 (rfl : 48 + 3 = 51) (Nat.le_of_ble_eq_true rfl) rfl rfl ?_
        refine k_iload (i := 4) dX5_giveHoursAlongChain_51 (rfl : 51 + 2 = 53) rfl ?_
        refine k_iload_n (i := 2) dX5_giveHoursAlongChain_53 (rfl : 53 + 1 = 54) rfl rfl ?_
        refine k_iast dX5_giveHoursAlongChain_54 (rfl : 54 + 1 = 55) (Nat.le_of_ble_eq_true rfl) rfl (mO_in (mO_at hc.1 (mO_in hh b12)) b26) ?_
        refine kf_X2 (f := (upd (x.2.2.1 2) (Int32.toNatClampNeg ((x.2.2.1 4) (Int32.toNatClampNeg u))) u)) rfl ?_
        refine k_iload (i := 5) dX5_giveHoursAlongChain_55 (rfl : 55 + 2 = 57) rfl ?_
        refine k_istore_n (i := 2) dX5_giveHoursAlongChain_57 (rfl : 57 + 1 = 58) rfl (Nat.le_of_ble_eq_true rfl) ?_
        refine k_ls (ls2 := [.ref 104, .int a, .int ((x.2.2.1 2) (Int32.toNatClampNeg ((x.2.2.1 4) (Int32.toNatClampNeg u)))), .int (nI j), .int ((x.2.2.1 4) (Int32.toNatClampNeg u)), .int ((x.2.2.1 2) (Int32.toNatClampNeg ((x.2.2.1 4) (Int32.toNatClampNeg u))))]) rfl ?_
        refine k_iinc (i := 3) (v := (nI (j + 1))) dX5_giveHoursAlongChain_58 (rfl : 58 + 3 = 61) rfl (Nat.le_of_ble_eq_true rfl) (nI_1 _) ?_
        refine k_ls (ls2 := [.ref 104, .int a, .int ((x.2.2.1 2) (Int32.toNatClampNeg ((x.2.2.1 4) (Int32.toNatClampNeg u)))), .int (nI (j + 1)), .int ((x.2.2.1 4) (Int32.toNatClampNeg u)), .int ((x.2.2.1 2) (Int32.toNatClampNeg ((x.2.2.1 4) (Int32.toNatClampNeg u))))]) rfl ?_
        refine k_goto (tgt := 4) dX5_giveHoursAlongChain_61 (by decide) ?_
        rw [ghL, if_neg (show ¬ (u = (-1)) from b12), if_neg (show ¬ (((x.2.2.1 4) (Int32.toNatClampNeg u)) = (-1)) from b26)]
        exact ih (kkR (kkR x 3 (upd (x.2.2.1 3) (Int32.toNatClampNeg u) ((x.2.2.1 4) (Int32.toNatClampNeg u)))) 2 (upd (x.2.2.1 2) (Int32.toNatClampNeg ((x.2.2.1 4) (Int32.toNatClampNeg u))) u)) (j + 1) ((x.2.2.1 2) (Int32.toNatClampNeg ((x.2.2.1 4) (Int32.toNatClampNeg u)))) _ _ (by omega) ⟨hc.1, mO_up hc.2.1 hh, mO_up hc.2.2.1 (Or.inr (mO_in (mO_at hc.1 (mO_in hh b12)) b26)), hc.2.2.2⟩ (mO_at hc.2.1 (mO_in (mO_at hc.1 (mO_in hh b12)) b26))
      · refine k_vret rfl dX5_giveHoursAlongChain_29 (Nat.le_of_ble_eq_true rfl) (Nat.le_of_ble_eq_true rfl) ?_
        have e9 : (ghL (k + 1) x j u) = x := by rw [ghL, if_neg (show ¬ (u = (-1)) from b12), if_pos (show ((x.2.2.1 4) (Int32.toNatClampNeg u)) = (-1) from b26)]
        exact kRt_of rfl (congrArg (fun z => kTp (kHc z) r) (Eq.symm e9))
set_option maxRecDepth 100000 in
set_option maxHeartbeats 4000000 in
theorem m_X5_giveHoursAlongChain {x : kK} {r : kH} {a : Int32} (hc : kChn x) (hh : mOr a 33) : kMet kX5_giveHoursAlongChain false 0 0 [.ref 104, .int a] (kTp (kHc x) r) 130 (kRt none (kTp (kHc (ghL 8 x 0 a)) r) 130) := by
  refine kMet.in (by decide) rfl rfl _ rfl ?_
  refine k_iload_n (i := 1) dX5_giveHoursAlongChain_0 (rfl : 0 + 1 = 1) rfl rfl ?_
  refine k_istore_n (i := 2) dX5_giveHoursAlongChain_1 (rfl : 1 + 1 = 2) rfl (Nat.le_of_ble_eq_true rfl) ?_
  refine k_iconst (v := 0) dX5_giveHoursAlongChain_2 (rfl : 2 + 1 = 3) (by decide) ?_
  refine k_istore_n (i := 3) dX5_giveHoursAlongChain_3 (rfl : 3 + 1 = 4) rfl (Nat.le_of_ble_eq_true rfl) ?_
  exact lghL 8 x 0 a _ _ (by omega) hc hh
theorem ghL_ok {k : Nat} : ∀ {x : kK} {j : Nat} {u : Int32}, kChn x → mOr u 33 → kChn (ghL k x j u) ∧ (ghL k x j u).1 = x.1 := by
  induction k with
  | zero => intro x j u h _; exact ⟨h, rfl⟩
  | succ k ih =>
    intro x j u hc hh
    rw [ghL]
    split
    · exact ⟨hc, rfl⟩
    · rename_i b12
      split
      · exact ⟨hc, rfl⟩
      · rename_i b26
        have q := ih (x := kkR (kkR x 3 (upd (x.2.2.1 3) (Int32.toNatClampNeg u) (x.2.2.1 4 (Int32.toNatClampNeg u)))) 2 (upd (x.2.2.1 2) (Int32.toNatClampNeg (x.2.2.1 4 (Int32.toNatClampNeg u))) u)) (j := j + 1) (u := x.2.2.1 2 (Int32.toNatClampNeg (x.2.2.1 4 (Int32.toNatClampNeg u)))) ⟨hc.1, mO_up hc.2.1 hh, mO_up hc.2.2.1 (Or.inr (mO_in (mO_at hc.1 (mO_in hh b12)) b26)), hc.2.2.2⟩ (mO_at hc.2.1 (mO_in (mO_at hc.1 (mO_in hh b12)) b26))
        exact ⟨q.1, q.2⟩
def kW8 (w : Int32) : Prop := ∃ m : Nat, m ≤ 8 ∧ w = nI m
theorem w8_in {w : Int32} (h : kW8 w) (h1 : ¬ 8 ≤ w) : vp_in w 8 := by
  obtain ⟨m, hm, rfl⟩ := h
  refine vp_in_nI ?_ (by omega)
  rcases Nat.lt_or_ge m 8 with q | q
  · exact q
  · exact absurd (nI_le (a := 8) (b := m) q (by omega)) h1
theorem w8_up {w : Int32} (h : kW8 w) (h1 : ¬ 8 ≤ w) : kW8 (w + Int32.ofInt 1) := by
  obtain ⟨m, hm, rfl⟩ := h
  refine ⟨m + 1, ?_, nI_1 m⟩
  rcases Nat.lt_or_ge m 8 with q | q
  · omega
  · exact absurd (nI_le (a := 8) (b := m) q (by omega)) h1
theorem ch_4 {x : kK} {i : Nat} {v : Int32} (hc : kChn x) (hv : vp_in v 8) : kChn (kkR x 4 (upd (x.2.2.1 4) i v)) := ⟨mO_up hc.1 (Or.inr hv), hc.2⟩
theorem ch_1 {x : kK} {a v : Int32} (hc : kChn x) (hv : vp_in v 8) : kChn (kkR x 1 (upd (x.2.2.1 1) a.toNatClampNeg v)) := ⟨hc.1, hc.2.1, hc.2.2.1, kQu_up hc.2.2.2 hv⟩
def fhI (i : Nat) : Nat → kK → Nat → Int32 → (kK × Int32) ⊕ (kK × Int32)
  | 0, x, j, w => .inr (x, w)
  | k + 1, x, j, w => if ((x.2.2.1 4) (Int32.toNatClampNeg (nI j))) = (-1) then (if (f_X3_canBeHeard x ((x.2.2.1 1) (Int32.toNatClampNeg (nI i))) (((x.1 0).2.1 4) + (nI j))) = 0 then (fhI i k x (j + 1) w) else (if ((x.2.2.1 3) (Int32.toNatClampNeg (nI j))) = (-1) then (.inl ((ghL 8 (kkR x 4 (upd (x.2.2.1 4) (Int32.toNatClampNeg (nI j)) ((x.2.2.1 1) (Int32.toNatClampNeg (nI i))))) 0 (nI j)), 1)) else (if 8 ≤ w then (fhI i k (kkR x 4 (upd (x.2.2.1 4) (Int32.toNatClampNeg (nI j)) ((x.2.2.1 1) (Int32.toNatClampNeg (nI i))))) (j + 1) w) else (fhI i k (kkR (kkR x 4 (upd (x.2.2.1 4) (Int32.toNatClampNeg (nI j)) ((x.2.2.1 1) (Int32.toNatClampNeg (nI i))))) 1 (upd (x.2.2.1 1) (Int32.toNatClampNeg w) ((x.2.2.1 3) (Int32.toNatClampNeg (nI j))))) (j + 1) (w + Int32.ofInt 1))))) else (fhI i k x (j + 1) w)
set_option maxRecDepth 100000 in
set_option maxHeartbeats 4000000 in
theorem lfhI {r : kH} {Q : kQ} {i : Nat} {a : Int32}  (hi : i < 8) : ∀ (k : Nat) (x : kK) (j : Nat) (w : Int32), j + k = 33 → kChn x → kW8 w → (∀ y, (fhI i k x j w) = .inl y → Q (.inl (some (.int y.2))) (kTp (kHc y.1) r) 130) → (∀ y, (fhI i k x j w) = .inr y → ∀ (z5 : Value), kEv kX5_findHour (kRm kX5_findHour 0 0) (kFm false 0 0 (Q)) false 139 [.ref 104, .ref 4, .int a, .int y.2, .int (nI i), z5] [] (kTp (kHc y.1) r) 130 0 0) → kEv kX5_findHour (kRm kX5_findHour 0 0) (kFm false 0 0 (Q)) false 36 [.ref 104, .ref 4, .int a, .int w, .int (nI i), .int (nI j)] [] (kTp (kHc x) r) 130 0 0 := by
  intro k
  induction k with
  | zero =>
    intro x j w hj hc hw hr hx
    refine k_iload (i := 5) dX5_findHour_36 (rfl : 36 + 2 = 38) rfl ?_
    refine k_bipush (v := 33) dX5_findHour_38 (rfl : 38 + 2 = 40) (by decide) ?_
    refine k_icmp_ge (tgt := 139) dX5_findHour_40 (rfl : 40 + 3 = 43) (by decide) (fun b40 => ?_) (fun b40 => by exact absurd (nI_le (a := 33) (b := j) (by omega) (by omega)) b40)
    exact hx _ (by rw [fhI]) _
  | succ k ih =>
    intro x j w hj hc hw hr hx
    refine k_iload (i := 5) dX5_findHour_36 (rfl : 36 + 2 = 38) rfl ?_
    refine k_bipush (v := 33) dX5_findHour_38 (rfl : 38 + 2 = 40) (by decide) ?_
    refine k_icmp_ge (tgt := 139) dX5_findHour_40 (rfl : 40 + 3 = 43) (by decide) (fun b40 => by exact absurd b40 (nI_ge (a := j) (b := 33) (by omega) (by decide))) (fun b40 => ?_)
    refine k_aload_n (i := 0) dX5_findHour_43 (rfl : 43 + 1 = 44) rfl rfl ?_
    refine k_get 5 3 fg_X5_21 dX5_findHour_44 (rfl : 44 + 3 = 47) (Nat.le_of_ble_eq_true rfl) rfl rfl ?_
    refine k_iload (i := 5) dX5_findHour_47 (rfl : 47 + 2 = 49) rfl ?_
    refine k_iald dX5_findHour_49 (rfl : 49 + 1 = 50) (Nat.le_of_ble_eq_true rfl) rfl (vp_in_nI (by omega) (by omega)) ?_
    refine k_iconst (v := (-1)) dX5_findHour_50 (rfl : 50 + 1 = 51) (by decide) ?_
    refine k_icmp_ne (tgt := 133) dX5_findHour_51 (rfl : 51 + 3 = 54) (by decide) (fun b51 => ?_) (fun b51 => ?_)
    · refine k_iinc (i := 5) (v := (nI (j + 1))) dX5_findHour_133 (rfl : 133 + 3 = 136) rfl (Nat.le_of_ble_eq_true rfl) (nI_1 _) ?_
      refine k_ls (ls2 := [.ref 104, .ref 4, .int a, .int w, .int (nI i), .int (nI (j + 1))]) rfl ?_
      refine k_goto (tgt := 36) dX5_findHour_136 (by decide) ?_
      exact ih x (j + 1) w (by omega) hc hw (fun y e => hr y (by rw [fhI, if_neg (show ¬ (((x.2.2.1 4) (Int32.toNatClampNeg (nI j))) = (-1)) from b51)]; exact e)) (fun y e => hx y (by rw [fhI, if_neg (show ¬ (((x.2.2.1 4) (Int32.toNatClampNeg (nI j))) = (-1)) from b51)]; exact e))
    · refine k_aload_n (i := 1) dX5_findHour_54 (rfl : 54 + 1 = 55) rfl rfl ?_
      refine k_aload_n (i := 0) dX5_findHour_55 (rfl : 55 + 1 = 56) rfl rfl ?_
      refine k_get 5 0 fg_X5_9 dX5_findHour_56 (rfl : 56 + 3 = 59) (Nat.le_of_ble_eq_true rfl) rfl rfl ?_
      refine k_iload (i := 4) dX5_findHour_59 (rfl : 59 + 2 = 61) rfl ?_
      refine k_iald dX5_findHour_61 (rfl : 61 + 1 = 62) (Nat.le_of_ble_eq_true rfl) rfl (vp_in_nI hi (by omega)) ?_
      refine k_aload_n (i := 1) dX5_findHour_62 (rfl : 62 + 1 = 63) rfl rfl ?_
      refine k_get 3 0 fg_X5_28 dX5_findHour_63 (rfl : 63 + 3 = 66) (Nat.le_of_ble_eq_true rfl) rfl rfl ?_
      refine k_iload (i := 5) dX5_findHour_66 (rfl : 66 + 2 = 68) rfl ?_
      refine k_iadd dX5_findHour_68 (rfl : 68 + 1 = 69) ?_
      refine k_callVd2 cv_X5_41 ⟨Nat.le_of_ble_eq_true rfl, Nat.le_of_ble_eq_true rfl⟩ (m_X3_canBeHeard (kQu_at hc.2.2.2 (vp_in_nI hi (by omega)))) dX5_findHour_69 (rfl : 69 + 3 = 72) (Nat.le_of_ble_eq_true rfl) rfl rfl rfl ⟨Nat.le_of_ble_eq_true rfl, Nat.le_of_ble_eq_true rfl⟩ ?_
      refine k_if_ne (tgt := 78) dX5_findHour_72 (rfl : 72 + 3 = 75) (by decide) (fun b72 => ?_) (fun b72 => ?_)
      · refine k_aload_n (i := 0) dX5_findHour_78 (rfl : 78 + 1 = 79) rfl rfl ?_
        refine k_get 5 3 fg_X5_21 dX5_findHour_79 (rfl : 79 + 3 = 82) (Nat.le_of_ble_eq_true rfl) rfl rfl ?_
        refine k_iload (i := 5) dX5_findHour_82 (rfl : 82 + 2 = 84) rfl ?_
        refine k_aload_n (i := 0) dX5_findHour_84 (rfl : 84 + 1 = 85) rfl rfl ?_
        refine k_get 5 0 fg_X5_9 dX5_findHour_85 (rfl : 85 + 3 = 88) (Nat.le_of_ble_eq_true rfl) rfl rfl ?_
        refine k_iload (i := 4) dX5_findHour_88 (rfl : 88 + 2 = 90) rfl ?_
        refine k_iald dX5_findHour_90 (rfl : 90 + 1 = 91) (Nat.le_of_ble_eq_true rfl) rfl (vp_in_nI hi (by omega)) ?_
        refine k_iast dX5_findHour_91 (rfl : 91 + 1 = 92) (Nat.le_of_ble_eq_true rfl) rfl (vp_in_nI (by omega) (by omega)) ?_
        refine kf_X4 (f := (upd (x.2.2.1 4) (Int32.toNatClampNeg (nI j)) ((x.2.2.1 1) (Int32.toNatClampNeg (nI i))))) rfl ?_
        refine k_aload_n (i := 0) dX5_findHour_92 (rfl : 92 + 1 = 93) rfl rfl ?_
        refine k_get 5 2 fg_X5_18 dX5_findHour_93 (rfl : 93 + 3 = 96) (Nat.le_of_ble_eq_true rfl) rfl rfl ?_
        refine k_iload (i := 5) dX5_findHour_96 (rfl : 96 + 2 = 98) rfl ?_
        refine k_iald dX5_findHour_98 (rfl : 98 + 1 = 99) (Nat.le_of_ble_eq_true rfl) rfl (vp_in_nI (by omega) (by omega)) ?_
        refine k_iconst (v := (-1)) dX5_findHour_99 (rfl : 99 + 1 = 100) (by decide) ?_
        refine k_icmp_ne (tgt := 111) dX5_findHour_100 (rfl : 100 + 3 = 103) (by decide) (fun b100 => ?_) (fun b100 => ?_)
        · refine k_iload_n (i := 3) dX5_findHour_111 (rfl : 111 + 1 = 112) rfl rfl ?_
          refine k_bipush (v := 8) dX5_findHour_112 (rfl : 112 + 2 = 114) (by decide) ?_
          refine k_icmp_ge (tgt := 133) dX5_findHour_114 (rfl : 114 + 3 = 117) (by decide) (fun b114 => ?_) (fun b114 => ?_)
          · refine k_iinc (i := 5) (v := (nI (j + 1))) dX5_findHour_133 (rfl : 133 + 3 = 136) rfl (Nat.le_of_ble_eq_true rfl) (nI_1 _) ?_
            refine k_ls (ls2 := [.ref 104, .ref 4, .int a, .int w, .int (nI i), .int (nI (j + 1))]) rfl ?_
            refine k_goto (tgt := 36) dX5_findHour_136 (by decide) ?_
            exact ih (kkR x 4 (upd (x.2.2.1 4) (Int32.toNatClampNeg (nI j)) ((x.2.2.1 1) (Int32.toNatClampNeg (nI i))))) (j + 1) w (by omega) (ch_4 hc (kQu_at hc.2.2.2 (vp_in_nI hi (by omega)))) hw (fun y e => hr y (by rw [fhI, if_pos (show ((x.2.2.1 4) (Int32.toNatClampNeg (nI j))) = (-1) from b51), if_neg (show ¬ ((f_X3_canBeHeard x ((x.2.2.1 1) (Int32.toNatClampNeg (nI i))) (((x.1 0).2.1 4) + (nI j))) = 0) from b72), if_neg (show ¬ (((x.2.2.1 3) (Int32.toNatClampNeg (nI j))) = (-1)) from b100), if_pos (show 8 ≤ w from b114)]; exact e)) (fun y e => hx y (by rw [fhI, if_pos (show ((x.2.2.1 4) (Int32.toNatClampNeg (nI j))) = (-1) from b51), if_neg (show ¬ ((f_X3_canBeHeard x ((x.2.2.1 1) (Int32.toNatClampNeg (nI i))) (((x.1 0).2.1 4) + (nI j))) = 0) from b72), if_neg (show ¬ (((x.2.2.1 3) (Int32.toNatClampNeg (nI j))) = (-1)) from b100), if_pos (show 8 ≤ w from b114)]; exact e))
          · refine k_aload_n (i := 0) dX5_findHour_117 (rfl : 117 + 1 = 118) rfl rfl ?_
            refine k_get 5 0 fg_X5_9 dX5_findHour_118 (rfl : 118 + 3 = 121) (Nat.le_of_ble_eq_true rfl) rfl rfl ?_
            refine k_iload_n (i := 3) dX5_findHour_121 (rfl : 121 + 1 = 122) rfl rfl ?_
            refine k_aload_n (i := 0) dX5_findHour_122 (rfl : 122 + 1 = 123) rfl rfl ?_
            refine k_get 5 2 fg_X5_18 dX5_findHour_123 (rfl : 123 + 3 = 126) (Nat.le_of_ble_eq_true rfl) rfl rfl ?_
            refine k_iload (i := 5) dX5_findHour_126 (rfl : 126 + 2 = 128) rfl ?_
            refine k_iald dX5_findHour_128 (rfl : 128 + 1 = 129) (Nat.le_of_ble_eq_true rfl) rfl (vp_in_nI (by omega) (by omega)) ?_
            refine k_iast dX5_findHour_129 (rfl : 129 + 1 = 130) (Nat.le_of_ble_eq_true rfl) rfl (w8_in hw b114) ?_
            refine kf_X1 (f := (upd (x.2.2.1 1) (Int32.toNatClampNeg w) ((x.2.2.1 3) (Int32.toNatClampNeg (nI j))))) rfl ?_
            refine k_iinc (i := 3) dX5_findHour_130 (rfl : 130 + 3 = 133) rfl (Nat.le_of_ble_eq_true rfl) rfl ?_
            refine k_ls (ls2 := [.ref 104, .ref 4, .int a, .int (w + Int32.ofInt 1), .int (nI i), .int (nI j)]) rfl ?_
            refine k_iinc (i := 5) (v := (nI (j + 1))) dX5_findHour_133 (rfl : 133 + 3 = 136) rfl (Nat.le_of_ble_eq_true rfl) (nI_1 _) ?_
            refine k_ls (ls2 := [.ref 104, .ref 4, .int a, .int (w + Int32.ofInt 1), .int (nI i), .int (nI (j + 1))]) rfl ?_
            refine k_goto (tgt := 36) dX5_findHour_136 (by decide) ?_
            exact ih (kkR (kkR x 4 (upd (x.2.2.1 4) (Int32.toNatClampNeg (nI j)) ((x.2.2.1 1) (Int32.toNatClampNeg (nI i))))) 1 (upd (x.2.2.1 1) (Int32.toNatClampNeg w) ((x.2.2.1 3) (Int32.toNatClampNeg (nI j))))) (j + 1) (w + Int32.ofInt 1) (by omega) (ch_1 (ch_4 hc (kQu_at hc.2.2.2 (vp_in_nI hi (by omega)))) (mO_in (mO_at (a := nI j) hc.2.2.1 (vp_in_nI (by omega) (by omega))) b100)) (w8_up hw b114) (fun y e => hr y (by rw [fhI, if_pos (show ((x.2.2.1 4) (Int32.toNatClampNeg (nI j))) = (-1) from b51), if_neg (show ¬ ((f_X3_canBeHeard x ((x.2.2.1 1) (Int32.toNatClampNeg (nI i))) (((x.1 0).2.1 4) + (nI j))) = 0) from b72), if_neg (show ¬ (((x.2.2.1 3) (Int32.toNatClampNeg (nI j))) = (-1)) from b100), if_neg (show ¬ (8 ≤ w) from b114)]; exact e)) (fun y e => hx y (by rw [fhI, if_pos (show ((x.2.2.1 4) (Int32.toNatClampNeg (nI j))) = (-1) from b51), if_neg (show ¬ ((f_X3_canBeHeard x ((x.2.2.1 1) (Int32.toNatClampNeg (nI i))) (((x.1 0).2.1 4) + (nI j))) = 0) from b72), if_neg (show ¬ (((x.2.2.1 3) (Int32.toNatClampNeg (nI j))) = (-1)) from b100), if_neg (show ¬ (8 ≤ w) from b114)]; exact e))
        · refine k_aload_n (i := 0) dX5_findHour_103 (rfl : 103 + 1 = 104) rfl rfl ?_
          refine k_iload (i := 5) dX5_findHour_104 (rfl : 104 + 2 = 106) rfl ?_
          refine k_callVv1 cv_X5_58 ⟨Nat.le_of_ble_eq_true rfl, Nat.le_of_ble_eq_true rfl⟩ (m_X5_giveHoursAlongChain (ch_4 hc (kQu_at hc.2.2.2 (vp_in_nI hi (by omega)))) (Or.inr (vp_in_nI (by omega) (by omega)))) dX5_findHour_106 (rfl : 106 + 3 = 109) (Nat.le_of_ble_eq_true rfl) rfl rfl rfl ⟨Nat.le_of_ble_eq_true rfl, Nat.le_of_ble_eq_true rfl⟩ ?_
          refine k_iconst (v := 1) dX5_findHour_109 (rfl : 109 + 1 = 110) (by decide) ?_
          refine k_iret rfl rfl dX5_findHour_110 (Nat.le_of_ble_eq_true rfl) (Nat.le_of_ble_eq_true rfl) ?_
          exact hr _ (by rw [fhI, if_pos (show ((x.2.2.1 4) (Int32.toNatClampNeg (nI j))) = (-1) from b51), if_neg (show ¬ ((f_X3_canBeHeard x ((x.2.2.1 1) (Int32.toNatClampNeg (nI i))) (((x.1 0).2.1 4) + (nI j))) = 0) from b72), if_pos (show ((x.2.2.1 3) (Int32.toNatClampNeg (nI j))) = (-1) from b100)])
      · refine k_goto (tgt := 133) dX5_findHour_75 (by decide) ?_
        refine k_iinc (i := 5) (v := (nI (j + 1))) dX5_findHour_133 (rfl : 133 + 3 = 136) rfl (Nat.le_of_ble_eq_true rfl) (nI_1 _) ?_
        refine k_ls (ls2 := [.ref 104, .ref 4, .int a, .int w, .int (nI i), .int (nI (j + 1))]) rfl ?_
        refine k_goto (tgt := 36) dX5_findHour_136 (by decide) ?_
        exact ih x (j + 1) w (by omega) hc hw (fun y e => hr y (by rw [fhI, if_pos (show ((x.2.2.1 4) (Int32.toNatClampNeg (nI j))) = (-1) from b51), if_pos (show (f_X3_canBeHeard x ((x.2.2.1 1) (Int32.toNatClampNeg (nI i))) (((x.1 0).2.1 4) + (nI j))) = 0 from b72)]; exact e)) (fun y e => hx y (by rw [fhI, if_pos (show ((x.2.2.1 4) (Int32.toNatClampNeg (nI j))) = (-1) from b51), if_pos (show (f_X3_canBeHeard x ((x.2.2.1 1) (Int32.toNatClampNeg (nI i))) (((x.1 0).2.1 4) + (nI j))) = 0 from b72)]; exact e))
def kCy (x : kK) : (kK × Int32) ⊕ (kK × Int32) → Prop := Sum.elim (fun y => kChn y.1 ∧ y.1.1 = x.1) (fun y => kChn y.1 ∧ kW8 y.2 ∧ y.1.1 = x.1)
def kCz (x : kK) : (kK × Int32) ⊕ kK → Prop := Sum.elim (fun y => kChn y.1 ∧ y.1.1 = x.1) (fun y => kChn y ∧ y.1 = x.1)
theorem fhI_ok {i k : Nat} (hi : i < 8) : ∀ {x : kK} {j : Nat} {w : Int32}, j + k = 33 → kChn x → kW8 w → kCy x (fhI i k x j w) := by
  induction k with
  | zero => intro x j w _ hc hw; exact ⟨hc, hw, rfl⟩
  | succ k ih =>
    intro x j w hj hc hw
    rw [fhI]
    split
    · split
      · exact ih (by omega) hc hw
      · split
        · have q := ghL_ok (k := 8) (j := 0) (u := nI j) (ch_4 (i := Int32.toNatClampNeg (nI j)) hc (kQu_at hc.2.2.2 (vp_in_nI hi (by omega)))) (Or.inr (vp_in_nI (by omega) (by omega)))
          exact ⟨q.1, q.2⟩
        · rename_i b100
          split
          · exact ih (by omega) (ch_4 hc (kQu_at hc.2.2.2 (vp_in_nI hi (by omega)))) hw
          · rename_i b114
            exact ih (by omega) (ch_1 (ch_4 hc (kQu_at hc.2.2.2 (vp_in_nI hi (by omega)))) (mO_in (mO_at (a := nI j) hc.2.2.1 (vp_in_nI (by omega) (by omega))) b100)) (w8_up hw b114)
    · exact ih (by omega) hc hw
theorem ci_r {i j k : Nat} {x : kK} {w : Int32} {y : kK × Int32} (hc : kChn x) (hw : kW8 w) (hi : i < 8) (hj : j + k = 33) (h : fhI i k x j w = .inr y) : kChn y.1 ∧ kW8 y.2 ∧ y.1.1 = x.1 := by
  have q := fhI_ok hi hj hc hw
  rw [h] at q
  exact q
def fhL : Nat → kK → Nat → Int32 → (kK × Int32) ⊕ (kK)
  | 0, x, j, w => if w ≤ (nI j) then (.inr x) else (.inr x)
  | k + 1, x, j, w => if w ≤ (nI j) then (.inr x) else (Sum.elim (fun w36 => .inl (w36.1, w36.2)) (fun w36 => (fhL k w36.1 (j + 1) w36.2)) (fhI j 33 x 0 w))
set_option maxRecDepth 100000 in
set_option maxHeartbeats 4000000 in
theorem lfhL {r : kH} {Q : kQ} {a : Int32}  : ∀ (k : Nat) (x : kK) (j : Nat) (w : Int32) (t5 : Value), j + k = 8 → kChn x → kW8 w → (∀ y, (fhL k x j w) = .inl y → Q (.inl (some (.int y.2))) (kTp (kHc y.1) r) 130) → (∀ y, (fhL k x j w) = .inr y → ∀ (z4 : Value) (z3 : Value) (z5 : Value), kEv kX5_findHour (kRm kX5_findHour 0 0) (kFm false 0 0 (Q)) false 145 [.ref 104, .ref 4, .int a, z3, z4, z5] [] (kTp (kHc y) r) 130 0 0) → kEv kX5_findHour (kRm kX5_findHour 0 0) (kFm false 0 0 (Q)) false 20 [.ref 104, .ref 4, .int a, .int w, .int (nI j), t5] [] (kTp (kHc x) r) 130 0 0 := by
  intro k
  induction k with
  | zero =>
    intro x j w t5 hj hc hw hr hx
    refine k_iload (i := 4) dX5_findHour_20 (rfl : 20 + 2 = 22) rfl ?_
    refine k_iload_n (i := 3) dX5_findHour_22 (rfl : 22 + 1 = 23) rfl rfl ?_
    refine k_icmp_ge (tgt := 145) dX5_findHour_23 (rfl : 23 + 3 = 26) (by decide) (fun b23 => ?_) (fun b23 => ?_)
    · exact hx _ (by rw [fhL, if_pos (show w ≤ (nI j) from b23)]) _ _ _
    · refine k_iload (i := 4) dX5_findHour_26 (rfl : 26 + 2 = 28) rfl ?_
      refine k_bipush (v := 8) dX5_findHour_28 (rfl : 28 + 2 = 30) (by decide) ?_
      refine k_icmp_ge (tgt := 145) dX5_findHour_30 (rfl : 30 + 3 = 33) (by decide) (fun b30 => ?_) (fun b30 => by exact absurd (nI_le (a := 8) (b := j) (by omega) (by omega)) b30)
      exact hx _ (by rw [fhL, if_neg (show ¬ (w ≤ (nI j)) from b23)]) _ _ _
  | succ k ih =>
    intro x j w t5 hj hc hw hr hx
    refine k_iload (i := 4) dX5_findHour_20 (rfl : 20 + 2 = 22) rfl ?_
    refine k_iload_n (i := 3) dX5_findHour_22 (rfl : 22 + 1 = 23) rfl rfl ?_
    refine k_icmp_ge (tgt := 145) dX5_findHour_23 (rfl : 23 + 3 = 26) (by decide) (fun b23 => ?_) (fun b23 => ?_)
    · exact hx _ (by rw [fhL, if_pos (show w ≤ (nI j) from b23)]) _ _ _
    · refine k_iload (i := 4) dX5_findHour_26 (rfl : 26 + 2 = 28) rfl ?_
      refine k_bipush (v := 8) dX5_findHour_28 (rfl : 28 + 2 = 30) (by decide) ?_
      refine k_icmp_ge (tgt := 145) dX5_findHour_30 (rfl : 30 + 3 = 33) (by decide) (fun b30 => by exact absurd b30 (nI_ge (a := j) (b := 8) (by omega) (by decide))) (fun b30 => ?_)
      refine k_iconst (v := 0) dX5_findHour_33 (rfl : 33 + 1 = 34) (by decide) ?_
      refine k_istore (i := 5) dX5_findHour_34 (rfl : 34 + 2 = 36) (Nat.le_of_ble_eq_true rfl) ?_
      refine k_ls (ls2 := [.ref 104, .ref 4, .int a, .int w, .int (nI j), .int 0]) rfl ?_
      refine lfhI (i := j) (by omega) 33 x 0 w (by omega) hc hw (fun w36 hw36 => ?_) (fun w36 hw36 z5 => ?_)
      · exact hr _ (by rw [fhL, if_neg (show ¬ (w ≤ (nI j)) from b23), hw36, Sum.elim_inl])
      · refine k_iinc (i := 4) (v := (nI (j + 1))) dX5_findHour_139 (rfl : 139 + 3 = 142) rfl (Nat.le_of_ble_eq_true rfl) (nI_1 _) ?_
        refine k_ls (ls2 := [.ref 104, .ref 4, .int a, .int w36.2, .int (nI (j + 1)), z5]) rfl ?_
        refine k_goto (tgt := 20) dX5_findHour_142 (by decide) ?_
        exact ih w36.1 (j + 1) w36.2 _ (by omega) (ci_r hc hw (by omega) (by omega) hw36).1 (ci_r hc hw (by omega) (by omega) hw36).2.1 (fun y e => hr y (by rw [fhL, if_neg (show ¬ (w ≤ (nI j)) from b23), hw36, Sum.elim_inr]; exact e)) (fun y e => hx y (by rw [fhL, if_neg (show ¬ (w ≤ (nI j)) from b23), hw36, Sum.elim_inr]; exact e))
theorem fhL_ok {k : Nat} : ∀ {x : kK} {j : Nat} {w : Int32}, j + k = 8 → kChn x → kW8 w → kCz x (fhL k x j w) := by
  induction k with
  | zero =>
    intro x j w _ hc hw
    rw [fhL]
    split <;> exact ⟨hc, rfl⟩
  | succ k ih =>
    intro x j w hj hc hw
    rw [fhL]
    split
    · exact ⟨hc, rfl⟩
    · have q := fhI_ok (i := j) (k := 33) (j := 0) (by omega) (by omega) hc hw
      revert q
      generalize fhI j 33 x 0 w = z
      intro q
      cases z with
      | inl y => exact q
      | inr y =>
        have q2 := ih (x := y.1) (j := j + 1) (w := y.2) (by omega) q.1 q.2.1
        revert q2
        show kCz y.1 (fhL k y.1 (j + 1) y.2) → kCz x (fhL k y.1 (j + 1) y.2)
        unfold kCz
        rw [q.2.2]
        exact id
theorem ch_f4 {x : kK} (hc : kChn x) : kChn (kkR x 4 (filR 33 (-1) (x.2.2.1 4))) := ⟨fun j hj => Or.inl (if_pos hj), hc.2⟩
theorem ch_f2 {x : kK} (hc : kChn x) : kChn (kkR x 2 (filR 8 (-1) (x.2.2.1 2))) := ⟨hc.1, fun j hj => Or.inl (if_pos hj), hc.2.2⟩
theorem ch_f3 {x : kK} (hc : kChn x) : kChn (kkR x 3 (filR 33 (-1) (x.2.2.1 3))) := ⟨hc.1, hc.2.1, fun j hj => Or.inl (if_pos hj), hc.2.2.2⟩
theorem ch_s {x : kK} {v : Int32} (hc : kChn x) (hv : vp_in v 8) : kChn (kkR (kkR x 4 (filR 33 (-1) (x.2.2.1 4))) 1 (upd (x.2.2.1 1) (Int32.toNatClampNeg 0) v)) := ch_1 (ch_f4 hc) hv
def f_X5_findHour (x : kK) (a2 : Int32) : Int32 := Sum.elim (fun w20 => w20.2) (fun w20 => 0) (fhL 8 (kkR (kkR x 4 (filR 33 (-1) (x.2.2.1 4))) 1 (upd (x.2.2.1 1) (Int32.toNatClampNeg 0) a2)) 0 1)
def g_X5_findHour (x : kK) (a2 : Int32) : kK := Sum.elim (fun w20 => w20.1) (fun w20 => w20) (fhL 8 (kkR (kkR x 4 (filR 33 (-1) (x.2.2.1 4))) 1 (upd (x.2.2.1 1) (Int32.toNatClampNeg 0) a2)) 0 1)
set_option maxRecDepth 100000 in
set_option maxHeartbeats 4000000 in
theorem m_X5_findHour {x : kK} {r : kH} {a2 : Int32} (hc : kChn x) (ha : vp_in a2 8) : kMet kX5_findHour false 0 0 [.ref 104, .ref 4, .int a2] (kTp (kHc x) r) 130 (kRt (some (.int (f_X5_findHour x a2))) (kTp (kHc (g_X5_findHour x a2)) r) 130) := by
  refine kMet.in (by decide) rfl rfl _ rfl ?_
  refine k_aload_n (i := 0) dX5_findHour_0 (rfl : 0 + 1 = 1) rfl rfl ?_
  refine k_get 5 3 fg_X5_21 dX5_findHour_1 (rfl : 1 + 3 = 4) (Nat.le_of_ble_eq_true rfl) rfl rfl ?_
  refine k_iconst (v := (-1)) dX5_findHour_4 (rfl : 4 + 1 = 5) (by decide) ?_
  refine k_callSv2 cv_X5_48 ⟨Nat.le_of_ble_eq_true rfl, Nat.le_of_ble_eq_true rfl⟩ (m_J7_fill_53178 (i := 108) (n := 33) (f := (x.2.2.1 4)) (Nat.le_of_ble_eq_true rfl) (by decide) rfl) dX5_findHour_5 (rfl : 5 + 3 = 8) rfl ⟨Nat.le_of_ble_eq_true rfl, Nat.le_of_ble_eq_true rfl⟩ ?_
  refine kf_X4 (f := (filR 33 (-1) (x.2.2.1 4))) rfl ?_
  refine k_aload_n (i := 0) dX5_findHour_8 (rfl : 8 + 1 = 9) rfl rfl ?_
  refine k_get 5 0 fg_X5_9 dX5_findHour_9 (rfl : 9 + 3 = 12) (Nat.le_of_ble_eq_true rfl) rfl rfl ?_
  refine k_iconst (v := 0) dX5_findHour_12 (rfl : 12 + 1 = 13) (by decide) ?_
  refine k_iload_n (i := 2) dX5_findHour_13 (rfl : 13 + 1 = 14) rfl rfl ?_
  refine k_iast dX5_findHour_14 (rfl : 14 + 1 = 15) (Nat.le_of_ble_eq_true rfl) rfl (vp_in_iff.mpr (by decide)) ?_
  refine kf_X1 (f := (upd (x.2.2.1 1) (Int32.toNatClampNeg 0) a2)) rfl ?_
  refine k_iconst (v := 1) dX5_findHour_15 (rfl : 15 + 1 = 16) (by decide) ?_
  refine k_istore_n (i := 3) dX5_findHour_16 (rfl : 16 + 1 = 17) rfl (Nat.le_of_ble_eq_true rfl) ?_
  refine k_ls (ls2 := [.ref 104, .ref 4, .int a2, .int 1, .retAddr 0, .retAddr 0]) rfl ?_
  refine k_iconst (v := 0) dX5_findHour_17 (rfl : 17 + 1 = 18) (by decide) ?_
  refine k_istore (i := 4) dX5_findHour_18 (rfl : 18 + 2 = 20) (Nat.le_of_ble_eq_true rfl) ?_
  refine k_ls (ls2 := [.ref 104, .ref 4, .int a2, .int 1, .int 0, .retAddr 0]) rfl ?_
  refine lfhL 8 (kkR (kkR x 4 (filR 33 (-1) (x.2.2.1 4))) 1 (upd (x.2.2.1 1) (Int32.toNatClampNeg 0) a2)) 0 1 _ (by omega) (ch_s hc ha) ⟨1, by omega, rfl⟩ (fun w20 hw20 => ?_) (fun w20 hw20 z4 z3 z5 => ?_)
  · exact kRt_of (congrArg (fun z => some (Value.int z)) (Eq.symm (congrArg (Sum.elim _ _) hw20))) (congrArg (fun z => kTp (kHc z) r) (Eq.symm (congrArg (Sum.elim _ _) hw20)))
  · refine k_iconst (v := 0) dX5_findHour_145 (rfl : 145 + 1 = 146) (by decide) ?_
    refine k_iret rfl rfl dX5_findHour_146 (Nat.le_of_ble_eq_true rfl) (Nat.le_of_ble_eq_true rfl) ?_
    exact kRt_of (congrArg (fun z => some (Value.int z)) (Eq.symm (congrArg (Sum.elim _ _) hw20))) (congrArg (fun z => kTp (kHc z) r) (Eq.symm (congrArg (Sum.elim _ _) hw20)))
theorem fh_ok {x : kK} {a : Int32} (hc : kChn x) (ha : vp_in a 8) : kChn (g_X5_findHour x a) ∧ (g_X5_findHour x a).1 = x.1 := by
  unfold g_X5_findHour
  have q := fhL_ok (k := 8) (j := 0) (w := 1) (by omega) (ch_s hc ha) ⟨1, by omega, rfl⟩
  revert q
  generalize fhL 8 _ 0 1 = z
  intro q
  cases z with
  | inl y => exact ⟨q.1, q.2⟩
  | inr y => exact ⟨q.1, q.2⟩
def mcL (c : Int32) : Nat → kK → Nat → Int32 → kK × Int32
  | 0, x, j, e => (x, e)
  | k + 1, x, j, e => if (f_X5_findHour x (nI j)) = 0 then (mcL c k (g_X5_findHour x (nI j)) (j + 1) e) else (mcL c k (g_X5_findHour x (nI j)) (j + 1) (e + Int32.ofInt 1))
set_option maxRecDepth 100000 in
set_option maxHeartbeats 4000000 in
theorem lmcL {r : kH} {Q : kQ} {c : Int32}  (h8 : c.toNatClampNeg ≤ 8) : ∀ (k : Nat) (x : kK) (j : Nat) (e : Int32), j + k = (Int32.toNatClampNeg c) → (x.1 0).2.1 6 = c → kChn x → (∀ (z3 : Value), kEv kX5_mostByChains (kRm kX5_mostByChains 0 0) (kFm false 0 0 (Q)) false 46 [.ref 104, .ref 4, .int (mcL c k x j e).2, z3] [] (kTp (kHc (mcL c k x j e).1) r) 130 0 0) → kEv kX5_mostByChains (kRm kX5_mostByChains 0 0) (kFm false 0 0 (Q)) false 20 [.ref 104, .ref 4, .int e, .int (nI j)] [] (kTp (kHc x) r) 130 0 0 := by
  intro k
  induction k with
  | zero =>
    intro x j e hj en hc hx
    refine k_iload_n (i := 3) dX5_mostByChains_20 (rfl : 20 + 1 = 21) rfl rfl ?_
    refine k_aload_n (i := 1) dX5_mostByChains_21 (rfl : 21 + 1 = 22) rfl rfl ?_
    refine k_get 3 2 fg_X5_34 dX5_mostByChains_22 (rfl : 22 + 3 = 25) (Nat.le_of_ble_eq_true rfl) rfl rfl ?_
    refine k_icmp_ge (tgt := 46) dX5_mostByChains_25 (rfl : 25 + 3 = 28) (by decide) (fun b25 => ?_) (fun b25 => by exact absurd (by rw [en]; exact cl_le (by omega)) b25)
    rw [mcL] at hx
    exact hx _
  | succ k ih =>
    intro x j e hj en hc hx
    refine k_iload_n (i := 3) dX5_mostByChains_20 (rfl : 20 + 1 = 21) rfl rfl ?_
    refine k_aload_n (i := 1) dX5_mostByChains_21 (rfl : 21 + 1 = 22) rfl rfl ?_
    refine k_get 3 2 fg_X5_34 dX5_mostByChains_22 (rfl : 22 + 3 = 25) (Nat.le_of_ble_eq_true rfl) rfl rfl ?_
    refine k_icmp_ge (tgt := 46) dX5_mostByChains_25 (rfl : 25 + 3 = 28) (by decide) (fun b25 => by exact absurd (by rw [en] at b25; exact b25) (cl_nle (by omega))) (fun b25 => ?_)
    refine k_aload_n (i := 0) dX5_mostByChains_28 (rfl : 28 + 1 = 29) rfl rfl ?_
    refine k_aload_n (i := 1) dX5_mostByChains_29 (rfl : 29 + 1 = 30) rfl rfl ?_
    refine k_iload_n (i := 3) dX5_mostByChains_30 (rfl : 30 + 1 = 31) rfl rfl ?_
    refine k_callVd2 cv_X5_54 ⟨Nat.le_of_ble_eq_true rfl, Nat.le_of_ble_eq_true rfl⟩ (m_X5_findHour hc (vp_in_nI (by omega) (by omega))) dX5_mostByChains_31 (rfl : 31 + 3 = 34) (Nat.le_of_ble_eq_true rfl) rfl rfl rfl ⟨Nat.le_of_ble_eq_true rfl, Nat.le_of_ble_eq_true rfl⟩ ?_
    generalize hg1 : (g_X5_findHour x (nI j)) = y1
    refine k_if_eq (tgt := 40) dX5_mostByChains_34 (rfl : 34 + 3 = 37) (by decide) (fun b34 => ?_) (fun b34 => ?_)
    · refine k_iinc (i := 3) (v := (nI (j + 1))) dX5_mostByChains_40 (rfl : 40 + 3 = 43) rfl (Nat.le_of_ble_eq_true rfl) (nI_1 _) ?_
      refine k_ls (ls2 := [.ref 104, .ref 4, .int e, .int (nI (j + 1))]) rfl ?_
      refine k_goto (tgt := 20) dX5_mostByChains_43 (by decide) ?_
      subst hg1
      rw [mcL, if_pos (show (f_X5_findHour x (nI j)) = 0 from b34)] at hx
      exact ih (g_X5_findHour x (nI j)) (j + 1) e (by omega) (by rw [(fh_ok hc (vp_in_nI (by omega) (by omega))).2]; exact en) (fh_ok hc (vp_in_nI (by omega) (by omega))).1 hx
    · refine k_iinc (i := 2) dX5_mostByChains_37 (rfl : 37 + 3 = 40) rfl (Nat.le_of_ble_eq_true rfl) rfl ?_
      refine k_ls (ls2 := [.ref 104, .ref 4, .int (e + Int32.ofInt 1), .int (nI j)]) rfl ?_
      refine k_iinc (i := 3) (v := (nI (j + 1))) dX5_mostByChains_40 (rfl : 40 + 3 = 43) rfl (Nat.le_of_ble_eq_true rfl) (nI_1 _) ?_
      refine k_ls (ls2 := [.ref 104, .ref 4, .int (e + Int32.ofInt 1), .int (nI (j + 1))]) rfl ?_
      refine k_goto (tgt := 20) dX5_mostByChains_43 (by decide) ?_
      subst hg1
      rw [mcL, if_neg (show ¬ ((f_X5_findHour x (nI j)) = 0) from b34)] at hx
      exact ih (g_X5_findHour x (nI j)) (j + 1) (e + Int32.ofInt 1) (by omega) (by rw [(fh_ok hc (vp_in_nI (by omega) (by omega))).2]; exact en) (fh_ok hc (vp_in_nI (by omega) (by omega))).1 hx
def f_X5_mostByChains (x : kK)  : Int32 := (mcL ((x.1 0).2.1 6) (kPn x) (kkR (kkR x 2 (filR 8 (-1) (x.2.2.1 2))) 3 (filR 33 (-1) (x.2.2.1 3))) 0 0).2
def g_X5_mostByChains (x : kK)  : kK := (mcL ((x.1 0).2.1 6) (kPn x) (kkR (kkR x 2 (filR 8 (-1) (x.2.2.1 2))) 3 (filR 33 (-1) (x.2.2.1 3))) 0 0).1
set_option maxRecDepth 100000 in
set_option maxHeartbeats 4000000 in
theorem m_X5_mostByChains {x : kK} {r : kH} (iv : kIv (x.1 0)) (hc : kChn x) : kMet kX5_mostByChains false 0 0 [.ref 104, .ref 4] (kTp (kHc x) r) 130 (kRt (some (.int (f_X5_mostByChains x ))) (kTp (kHc (g_X5_mostByChains x )) r) 130) := by
  refine kMet.in (by decide) rfl rfl _ rfl ?_
  refine k_aload_n (i := 0) dX5_mostByChains_0 (rfl : 0 + 1 = 1) rfl rfl ?_
  refine k_get 5 1 fg_X5_15 dX5_mostByChains_1 (rfl : 1 + 3 = 4) (Nat.le_of_ble_eq_true rfl) rfl rfl ?_
  refine k_iconst (v := (-1)) dX5_mostByChains_4 (rfl : 4 + 1 = 5) (by decide) ?_
  refine k_callSv2 cv_X5_48 ⟨Nat.le_of_ble_eq_true rfl, Nat.le_of_ble_eq_true rfl⟩ (m_J7_fill_53178 (i := 106) (n := 8) (f := (x.2.2.1 2)) (Nat.le_of_ble_eq_true rfl) (by decide) rfl) dX5_mostByChains_5 (rfl : 5 + 3 = 8) rfl ⟨Nat.le_of_ble_eq_true rfl, Nat.le_of_ble_eq_true rfl⟩ ?_
  refine kf_X2 (f := (filR 8 (-1) (x.2.2.1 2))) rfl ?_
  refine k_aload_n (i := 0) dX5_mostByChains_8 (rfl : 8 + 1 = 9) rfl rfl ?_
  refine k_get 5 2 fg_X5_18 dX5_mostByChains_9 (rfl : 9 + 3 = 12) (Nat.le_of_ble_eq_true rfl) rfl rfl ?_
  refine k_iconst (v := (-1)) dX5_mostByChains_12 (rfl : 12 + 1 = 13) (by decide) ?_
  refine k_callSv2 cv_X5_48 ⟨Nat.le_of_ble_eq_true rfl, Nat.le_of_ble_eq_true rfl⟩ (m_J7_fill_53178 (i := 107) (n := 33) (f := (x.2.2.1 3)) (Nat.le_of_ble_eq_true rfl) (by decide) rfl) dX5_mostByChains_13 (rfl : 13 + 3 = 16) rfl ⟨Nat.le_of_ble_eq_true rfl, Nat.le_of_ble_eq_true rfl⟩ ?_
  refine kf_X3 (f := (filR 33 (-1) (x.2.2.1 3))) rfl ?_
  refine k_iconst (v := 0) dX5_mostByChains_16 (rfl : 16 + 1 = 17) (by decide) ?_
  refine k_istore_n (i := 2) dX5_mostByChains_17 (rfl : 17 + 1 = 18) rfl (Nat.le_of_ble_eq_true rfl) ?_
  refine k_ls (ls2 := [.ref 104, .ref 4, .int 0, .retAddr 0]) rfl ?_
  refine k_iconst (v := 0) dX5_mostByChains_18 (rfl : 18 + 1 = 19) (by decide) ?_
  refine k_istore_n (i := 3) dX5_mostByChains_19 (rfl : 19 + 1 = 20) rfl (Nat.le_of_ble_eq_true rfl) ?_
  refine k_ls (ls2 := [.ref 104, .ref 4, .int 0, .int 0]) rfl ?_
  refine lmcL (c := ((x.1 0).2.1 6)) (iv_pl iv) (kPn x) (kkR (kkR x 2 (filR 8 (-1) (x.2.2.1 2))) 3 (filR 33 (-1) (x.2.2.1 3))) 0 0 (by unfold kPn; omega) rfl (ch_f3 (ch_f2 hc)) (fun z3 => ?_)
  generalize hw20 : (mcL ((x.1 0).2.1 6) (kPn x) (kkR (kkR x 2 (filR 8 (-1) (x.2.2.1 2))) 3 (filR 33 (-1) (x.2.2.1 3))) 0 0) = w20
  refine k_iload_n (i := 2) dX5_mostByChains_46 (rfl : 46 + 1 = 47) rfl rfl ?_
  refine k_iret rfl rfl dX5_mostByChains_47 (Nat.le_of_ble_eq_true rfl) (Nat.le_of_ble_eq_true rfl) ?_
  subst hw20
  exact kRt_of rfl rfl
