/-! COPIES of whole states -/
theorem kU_kU {h : kH} {a : Nat} {e e2 : kE} : kU (kU h a e) a e2 = kU h a e2 := by
  funext j
  unfold kU
  cases Nat.beq j a <;> rfl
set_option maxRecDepth 100000 in
set_option maxHeartbeats 4000000 in
theorem m_X10_copyFrom {h : kH} {N a b p0 q0 : Nat} {u0 v0 : Int64} {u1 v1 : Int32} {u2 v2 : Int32} {u3 v3 : Int32} {u4 v4 : Int32} {f0 g0 : Nat → Int32}  (la : a < N) (lb : b < N) (lp0 : p0 < N) (lq0 : q0 < N) (eA : h a = kO 10 [.long u0, .int u1, .int u2, .int u3, .int u4, .ref p0]) (eB : h b = kO 10 [.long v0, .int v1, .int v2, .int v3, .int v4, .ref q0]) (eP0 : h p0 = kI 8 f0) (eQ0 : h q0 = kI 8 g0) (n_a_b : a ≠ b) (n_a_p0 : a ≠ p0) (n_a_q0 : a ≠ q0) (n_b_p0 : b ≠ p0) (n_b_q0 : b ≠ q0) (n_p0_q0 : p0 ≠ q0) : kMet kX10_copyFrom false 0 0 [.ref a, .ref b] h N (kRt none (kU (kU h a (kO 10 [.long v0, .int v1, .int v2, .int v3, .int v4, .ref p0])) p0 (kI 8 (va_cpy g0 f0 0 0 8))) N) := by
  refine kMet.in (by decide) rfl rfl _ rfl ?_
  refine k_aload_n (i := 0) dX10_copyFrom_0 (rfl : 0 + 1 = 1) rfl rfl ?_
  refine k_aload_n (i := 1) dX10_copyFrom_1 (rfl : 1 + 1 = 2) rfl rfl ?_
  refine k_get 10 0 fg_X10_15 dX10_copyFrom_2 (rfl : 2 + 3 = 5) lb eB rfl ?_
  refine k_put 10 0 fp_X10_15 dX10_copyFrom_5 (rfl : 5 + 3 = 8) la eA (Nat.le_of_ble_eq_true rfl) rfl rfl ?_
  refine k_aload_n (i := 0) dX10_copyFrom_8 (rfl : 8 + 1 = 9) rfl rfl ?_
  refine k_aload_n (i := 1) dX10_copyFrom_9 (rfl : 9 + 1 = 10) rfl rfl ?_
  refine k_get 10 1 fg_X10_19 dX10_copyFrom_10 (rfl : 10 + 3 = 13) lb (Eq.trans (kU_n (Ne.symm n_a_b)) eB) rfl ?_
  refine k_put 10 1 fp_X10_19 dX10_copyFrom_13 (rfl : 13 + 3 = 16) la kU_s (Nat.le_of_ble_eq_true rfl) rfl rfl ?_
  rw [kU_kU]
  refine k_aload_n (i := 0) dX10_copyFrom_16 (rfl : 16 + 1 = 17) rfl rfl ?_
  refine k_aload_n (i := 1) dX10_copyFrom_17 (rfl : 17 + 1 = 18) rfl rfl ?_
  refine k_get 10 2 fg_X10_23 dX10_copyFrom_18 (rfl : 18 + 3 = 21) lb (Eq.trans (kU_n (Ne.symm n_a_b)) eB) rfl ?_
  refine k_put 10 2 fp_X10_23 dX10_copyFrom_21 (rfl : 21 + 3 = 24) la kU_s (Nat.le_of_ble_eq_true rfl) rfl rfl ?_
  rw [kU_kU]
  refine k_aload_n (i := 0) dX10_copyFrom_24 (rfl : 24 + 1 = 25) rfl rfl ?_
  refine k_aload_n (i := 1) dX10_copyFrom_25 (rfl : 25 + 1 = 26) rfl rfl ?_
  refine k_get 10 3 fg_X10_26 dX10_copyFrom_26 (rfl : 26 + 3 = 29) lb (Eq.trans (kU_n (Ne.symm n_a_b)) eB) rfl ?_
  refine k_put 10 3 fp_X10_26 dX10_copyFrom_29 (rfl : 29 + 3 = 32) la kU_s (Nat.le_of_ble_eq_true rfl) rfl rfl ?_
  rw [kU_kU]
  refine k_aload_n (i := 0) dX10_copyFrom_32 (rfl : 32 + 1 = 33) rfl rfl ?_
  refine k_aload_n (i := 1) dX10_copyFrom_33 (rfl : 33 + 1 = 34) rfl rfl ?_
  refine k_get 10 4 fg_X10_29 dX10_copyFrom_34 (rfl : 34 + 3 = 37) lb (Eq.trans (kU_n (Ne.symm n_a_b)) eB) rfl ?_
  refine k_put 10 4 fp_X10_29 dX10_copyFrom_37 (rfl : 37 + 3 = 40) la kU_s (Nat.le_of_ble_eq_true rfl) rfl rfl ?_
  rw [kU_kU]
  refine k_aload_n (i := 1) dX10_copyFrom_40 (rfl : 40 + 1 = 41) rfl rfl ?_
  refine k_get 10 5 fg_X10_9 dX10_copyFrom_41 (rfl : 41 + 3 = 44) lb (Eq.trans (kU_n (Ne.symm n_a_b)) eB) rfl ?_
  refine k_iconst (v := 0) dX10_copyFrom_44 (rfl : 44 + 1 = 45) (by decide) ?_
  refine k_aload_n (i := 0) dX10_copyFrom_45 (rfl : 45 + 1 = 46) rfl rfl ?_
  refine k_get 10 5 fg_X10_9 dX10_copyFrom_46 (rfl : 46 + 3 = 49) la kU_s rfl ?_
  refine k_iconst (v := 0) dX10_copyFrom_49 (rfl : 49 + 1 = 50) (by decide) ?_
  refine k_bipush (v := 8) dX10_copyFrom_50 (rfl : 50 + 2 = 52) (by decide) ?_
  refine k_copy (gm 723 (by decide +kernel) (by decide +kernel)) (gm 725 (by decide +kernel) (by decide +kernel)) (gm 724 (by decide +kernel) (by decide +kernel)) (gm 106 (by decide +kernel) (by decide +kernel)) dX10_copyFrom_52 (rfl : 52 + 3 = 55) lq0 (Eq.trans (kU_n (Ne.symm n_a_q0)) eQ0) lp0 (Eq.trans (kU_n (Ne.symm n_a_p0)) eP0) (by decide) (by decide) (by decide) (Nat.le_of_ble_eq_true rfl) (Nat.le_of_ble_eq_true rfl) ?_
  refine k_vret rfl dX10_copyFrom_55 (Nat.le_of_ble_eq_true rfl) (Nat.le_of_ble_eq_true rfl) ?_
  exact kRt_rfl
set_option maxRecDepth 100000 in
set_option maxHeartbeats 4000000 in
theorem m_X3_copyFrom {h : kH} {N a b p0 q0 p1 q1 p2 q2 : Nat} {u0 v0 : Int32} {u1 v1 : Int32} {u2 v2 : Int32} {f0 g0 f1 g1 f2 g2 : Nat → Int32}  (la : a < N) (lb : b < N) (lp0 : p0 < N) (lq0 : q0 < N) (lp1 : p1 < N) (lq1 : q1 < N) (lp2 : p2 < N) (lq2 : q2 < N) (eA : h a = kO 3 [.int u0, .int u1, .int u2, .ref p0, .ref p1, .ref p2]) (eB : h b = kO 3 [.int v0, .int v1, .int v2, .ref q0, .ref q1, .ref q2]) (eP0 : h p0 = kI 8 f0) (eQ0 : h q0 = kI 8 g0) (eP1 : h p1 = kI 8 f1) (eQ1 : h q1 = kI 8 g1) (eP2 : h p2 = kI 8 f2) (eQ2 : h q2 = kI 8 g2) (n_a_b : a ≠ b) (n_a_p0 : a ≠ p0) (n_a_p1 : a ≠ p1) (n_a_p2 : a ≠ p2) (n_a_q0 : a ≠ q0) (n_a_q1 : a ≠ q1) (n_a_q2 : a ≠ q2) (n_b_p0 : b ≠ p0) (n_b_p1 : b ≠ p1) (n_b_p2 : b ≠ p2) (n_b_q0 : b ≠ q0) (n_b_q1 : b ≠ q1) (n_b_q2 : b ≠ q2) (n_p0_p1 : p0 ≠ p1) (n_p0_p2 : p0 ≠ p2) (n_p0_q0 : p0 ≠ q0) (n_p0_q1 : p0 ≠ q1) (n_p0_q2 : p0 ≠ q2) (n_p1_p2 : p1 ≠ p2) (n_p1_q0 : p1 ≠ q0) (n_p1_q1 : p1 ≠ q1) (n_p1_q2 : p1 ≠ q2) (n_p2_q0 : p2 ≠ q0) (n_p2_q1 : p2 ≠ q1) (n_p2_q2 : p2 ≠ q2) (n_q0_q1 : q0 ≠ q1) (n_q0_q2 : q0 ≠ q2) (n_q1_q2 : q1 ≠ q2) : kMet kX3_copyFrom false 0 0 [.ref a, .ref b] h N (kRt none (kU (kU (kU (kU h a (kO 3 [.int v0, .int v1, .int v2, .ref p0, .ref p1, .ref p2])) p0 (kI 8 (va_cpy g0 f0 0 0 8))) p1 (kI 8 (va_cpy g1 f1 0 0 8))) p2 (kI 8 (va_cpy g2 f2 0 0 8))) N) := by
  refine kMet.in (by decide) rfl rfl _ rfl ?_
  refine k_aload_n (i := 0) dX3_copyFrom_0 (rfl : 0 + 1 = 1) rfl rfl ?_
  refine k_aload_n (i := 1) dX3_copyFrom_1 (rfl : 1 + 1 = 2) rfl rfl ?_
  refine k_get 3 0 fg_X3_26 dX3_copyFrom_2 (rfl : 2 + 3 = 5) lb eB rfl ?_
  refine k_put 3 0 fp_X3_26 dX3_copyFrom_5 (rfl : 5 + 3 = 8) la eA (Nat.le_of_ble_eq_true rfl) rfl rfl ?_
  refine k_aload_n (i := 0) dX3_copyFrom_8 (rfl : 8 + 1 = 9) rfl rfl ?_
  refine k_aload_n (i := 1) dX3_copyFrom_9 (rfl : 9 + 1 = 10) rfl rfl ?_
  refine k_get 3 1 fg_X3_10 dX3_copyFrom_10 (rfl : 10 + 3 = 13) lb (Eq.trans (kU_n (Ne.symm n_a_b)) eB) rfl ?_
  refine k_put 3 1 fp_X3_10 dX3_copyFrom_13 (rfl : 13 + 3 = 16) la kU_s (Nat.le_of_ble_eq_true rfl) rfl rfl ?_
  rw [kU_kU]
  refine k_aload_n (i := 0) dX3_copyFrom_16 (rfl : 16 + 1 = 17) rfl rfl ?_
  refine k_aload_n (i := 1) dX3_copyFrom_17 (rfl : 17 + 1 = 18) rfl rfl ?_
  refine k_get 3 2 fg_X3_29 dX3_copyFrom_18 (rfl : 18 + 3 = 21) lb (Eq.trans (kU_n (Ne.symm n_a_b)) eB) rfl ?_
  refine k_put 3 2 fp_X3_29 dX3_copyFrom_21 (rfl : 21 + 3 = 24) la kU_s (Nat.le_of_ble_eq_true rfl) rfl rfl ?_
  rw [kU_kU]
  refine k_aload_n (i := 1) dX3_copyFrom_24 (rfl : 24 + 1 = 25) rfl rfl ?_
  refine k_get 3 3 fg_X3_16 dX3_copyFrom_25 (rfl : 25 + 3 = 28) lb (Eq.trans (kU_n (Ne.symm n_a_b)) eB) rfl ?_
  refine k_iconst (v := 0) dX3_copyFrom_28 (rfl : 28 + 1 = 29) (by decide) ?_
  refine k_aload_n (i := 0) dX3_copyFrom_29 (rfl : 29 + 1 = 30) rfl rfl ?_
  refine k_get 3 3 fg_X3_16 dX3_copyFrom_30 (rfl : 30 + 3 = 33) la kU_s rfl ?_
  refine k_iconst (v := 0) dX3_copyFrom_33 (rfl : 33 + 1 = 34) (by decide) ?_
  refine k_bipush (v := 8) dX3_copyFrom_34 (rfl : 34 + 2 = 36) (by decide) ?_
  refine k_copy (gm 730 (by decide +kernel) (by decide +kernel)) (gm 725 (by decide +kernel) (by decide +kernel)) (gm 724 (by decide +kernel) (by decide +kernel)) (gm 106 (by decide +kernel) (by decide +kernel)) dX3_copyFrom_36 (rfl : 36 + 3 = 39) lq0 (Eq.trans (kU_n (Ne.symm n_a_q0)) eQ0) lp0 (Eq.trans (kU_n (Ne.symm n_a_p0)) eP0) (by decide) (by decide) (by decide) (Nat.le_of_ble_eq_true rfl) (Nat.le_of_ble_eq_true rfl) ?_
  refine k_aload_n (i := 1) dX3_copyFrom_39 (rfl : 39 + 1 = 40) rfl rfl ?_
  refine k_get 3 4 fg_X3_20 dX3_copyFrom_40 (rfl : 40 + 3 = 43) lb (Eq.trans (kU_n n_b_p0) (Eq.trans (kU_n (Ne.symm n_a_b)) eB)) rfl ?_
  refine k_iconst (v := 0) dX3_copyFrom_43 (rfl : 43 + 1 = 44) (by decide) ?_
  refine k_aload_n (i := 0) dX3_copyFrom_44 (rfl : 44 + 1 = 45) rfl rfl ?_
  refine k_get 3 4 fg_X3_20 dX3_copyFrom_45 (rfl : 45 + 3 = 48) la (Eq.trans (kU_n n_a_p0) kU_s) rfl ?_
  refine k_iconst (v := 0) dX3_copyFrom_48 (rfl : 48 + 1 = 49) (by decide) ?_
  refine k_bipush (v := 8) dX3_copyFrom_49 (rfl : 49 + 2 = 51) (by decide) ?_
  refine k_copy (gm 730 (by decide +kernel) (by decide +kernel)) (gm 725 (by decide +kernel) (by decide +kernel)) (gm 724 (by decide +kernel) (by decide +kernel)) (gm 106 (by decide +kernel) (by decide +kernel)) dX3_copyFrom_51 (rfl : 51 + 3 = 54) lq1 (Eq.trans (kU_n (Ne.symm n_p0_q1)) (Eq.trans (kU_n (Ne.symm n_a_q1)) eQ1)) lp1 (Eq.trans (kU_n (Ne.symm n_p0_p1)) (Eq.trans (kU_n (Ne.symm n_a_p1)) eP1)) (by decide) (by decide) (by decide) (Nat.le_of_ble_eq_true rfl) (Nat.le_of_ble_eq_true rfl) ?_
  refine k_aload_n (i := 1) dX3_copyFrom_54 (rfl : 54 + 1 = 55) rfl rfl ?_
  refine k_get 3 5 fg_X3_23 dX3_copyFrom_55 (rfl : 55 + 3 = 58) lb (Eq.trans (kU_n n_b_p1) (Eq.trans (kU_n n_b_p0) (Eq.trans (kU_n (Ne.symm n_a_b)) eB))) rfl ?_
  refine k_iconst (v := 0) dX3_copyFrom_58 (rfl : 58 + 1 = 59) (by decide) ?_
  refine k_aload_n (i := 0) dX3_copyFrom_59 (rfl : 59 + 1 = 60) rfl rfl ?_
  refine k_get 3 5 fg_X3_23 dX3_copyFrom_60 (rfl : 60 + 3 = 63) la (Eq.trans (kU_n n_a_p1) (Eq.trans (kU_n n_a_p0) kU_s)) rfl ?_
  refine k_iconst (v := 0) dX3_copyFrom_63 (rfl : 63 + 1 = 64) (by decide) ?_
  refine k_bipush (v := 8) dX3_copyFrom_64 (rfl : 64 + 2 = 66) (by decide) ?_
  refine k_copy (gm 730 (by decide +kernel) (by decide +kernel)) (gm 725 (by decide +kernel) (by decide +kernel)) (gm 724 (by decide +kernel) (by decide +kernel)) (gm 106 (by decide +kernel) (by decide +kernel)) dX3_copyFrom_66 (rfl : 66 + 3 = 69) lq2 (Eq.trans (kU_n (Ne.symm n_p1_q2)) (Eq.trans (kU_n (Ne.symm n_p0_q2)) (Eq.trans (kU_n (Ne.symm n_a_q2)) eQ2))) lp2 (Eq.trans (kU_n (Ne.symm n_p1_p2)) (Eq.trans (kU_n (Ne.symm n_p0_p2)) (Eq.trans (kU_n (Ne.symm n_a_p2)) eP2))) (by decide) (by decide) (by decide) (Nat.le_of_ble_eq_true rfl) (Nat.le_of_ble_eq_true rfl) ?_
  refine k_vret rfl dX3_copyFrom_69 (Nat.le_of_ble_eq_true rfl) (Nat.le_of_ble_eq_true rfl) ?_
  exact kRt_rfl
set_option maxRecDepth 100000 in
set_option maxHeartbeats 4000000 in
theorem m_X7_copyFrom {h : kH} {N a b p0 q0 : Nat} {u0 v0 : Int32} {u1 v1 : Int32} {u2 v2 : Int32} {u3 v3 : Int32} {u4 v4 : Int32} {u5 v5 : Int32} {u6 v6 : Int32} {u7 v7 : Int32} {f0 g0 : Nat → Int32}  (la : a < N) (lb : b < N) (lp0 : p0 < N) (lq0 : q0 < N) (eA : h a = kO 7 [.int u0, .int u1, .int u2, .int u3, .int u4, .int u5, .int u6, .int u7, .ref p0]) (eB : h b = kO 7 [.int v0, .int v1, .int v2, .int v3, .int v4, .int v5, .int v6, .int v7, .ref q0]) (eP0 : h p0 = kI 8 f0) (eQ0 : h q0 = kI 8 g0) (n_a_b : a ≠ b) (n_a_p0 : a ≠ p0) (n_a_q0 : a ≠ q0) (n_b_p0 : b ≠ p0) (n_b_q0 : b ≠ q0) (n_p0_q0 : p0 ≠ q0) : kMet kX7_copyFrom false 0 0 [.ref a, .ref b] h N (kRt none (kU (kU h a (kO 7 [.int v0, .int v1, .int v2, .int v3, .int v4, .int v5, .int v6, .int v7, .ref p0])) p0 (kI 8 (va_cpy g0 f0 0 0 8))) N) := by
  refine kMet.in (by decide) rfl rfl _ rfl ?_
  refine k_aload_n (i := 0) dX7_copyFrom_0 (rfl : 0 + 1 = 1) rfl rfl ?_
  refine k_aload_n (i := 1) dX7_copyFrom_1 (rfl : 1 + 1 = 2) rfl rfl ?_
  refine k_get 7 0 fg_X7_9 dX7_copyFrom_2 (rfl : 2 + 3 = 5) lb eB rfl ?_
  refine k_put 7 0 fp_X7_9 dX7_copyFrom_5 (rfl : 5 + 3 = 8) la eA (Nat.le_of_ble_eq_true rfl) rfl rfl ?_
  refine k_aload_n (i := 0) dX7_copyFrom_8 (rfl : 8 + 1 = 9) rfl rfl ?_
  refine k_aload_n (i := 1) dX7_copyFrom_9 (rfl : 9 + 1 = 10) rfl rfl ?_
  refine k_get 7 1 fg_X7_15 dX7_copyFrom_10 (rfl : 10 + 3 = 13) lb (Eq.trans (kU_n (Ne.symm n_a_b)) eB) rfl ?_
  refine k_put 7 1 fp_X7_15 dX7_copyFrom_13 (rfl : 13 + 3 = 16) la kU_s (Nat.le_of_ble_eq_true rfl) rfl rfl ?_
  rw [kU_kU]
  refine k_aload_n (i := 0) dX7_copyFrom_16 (rfl : 16 + 1 = 17) rfl rfl ?_
  refine k_aload_n (i := 1) dX7_copyFrom_17 (rfl : 17 + 1 = 18) rfl rfl ?_
  refine k_get 7 2 fg_X7_22 dX7_copyFrom_18 (rfl : 18 + 3 = 21) lb (Eq.trans (kU_n (Ne.symm n_a_b)) eB) rfl ?_
  refine k_put 7 2 fp_X7_22 dX7_copyFrom_21 (rfl : 21 + 3 = 24) la kU_s (Nat.le_of_ble_eq_true rfl) rfl rfl ?_
  rw [kU_kU]
  refine k_aload_n (i := 0) dX7_copyFrom_24 (rfl : 24 + 1 = 25) rfl rfl ?_
  refine k_aload_n (i := 1) dX7_copyFrom_25 (rfl : 25 + 1 = 26) rfl rfl ?_
  refine k_get 7 3 fg_X7_25 dX7_copyFrom_26 (rfl : 26 + 3 = 29) lb (Eq.trans (kU_n (Ne.symm n_a_b)) eB) rfl ?_
  refine k_put 7 3 fp_X7_25 dX7_copyFrom_29 (rfl : 29 + 3 = 32) la kU_s (Nat.le_of_ble_eq_true rfl) rfl rfl ?_
  rw [kU_kU]
  refine k_aload_n (i := 0) dX7_copyFrom_32 (rfl : 32 + 1 = 33) rfl rfl ?_
  refine k_aload_n (i := 1) dX7_copyFrom_33 (rfl : 33 + 1 = 34) rfl rfl ?_
  refine k_get 7 4 fg_X7_28 dX7_copyFrom_34 (rfl : 34 + 3 = 37) lb (Eq.trans (kU_n (Ne.symm n_a_b)) eB) rfl ?_
  refine k_put 7 4 fp_X7_28 dX7_copyFrom_37 (rfl : 37 + 3 = 40) la kU_s (Nat.le_of_ble_eq_true rfl) rfl rfl ?_
  rw [kU_kU]
  refine k_aload_n (i := 0) dX7_copyFrom_40 (rfl : 40 + 1 = 41) rfl rfl ?_
  refine k_aload_n (i := 1) dX7_copyFrom_41 (rfl : 41 + 1 = 42) rfl rfl ?_
  refine k_get 7 5 fg_X7_31 dX7_copyFrom_42 (rfl : 42 + 3 = 45) lb (Eq.trans (kU_n (Ne.symm n_a_b)) eB) rfl ?_
  refine k_put 7 5 fp_X7_31 dX7_copyFrom_45 (rfl : 45 + 3 = 48) la kU_s (Nat.le_of_ble_eq_true rfl) rfl rfl ?_
  rw [kU_kU]
  refine k_aload_n (i := 0) dX7_copyFrom_48 (rfl : 48 + 1 = 49) rfl rfl ?_
  refine k_aload_n (i := 1) dX7_copyFrom_49 (rfl : 49 + 1 = 50) rfl rfl ?_
  refine k_get 7 6 fg_X7_34 dX7_copyFrom_50 (rfl : 50 + 3 = 53) lb (Eq.trans (kU_n (Ne.symm n_a_b)) eB) rfl ?_
  refine k_put 7 6 fp_X7_34 dX7_copyFrom_53 (rfl : 53 + 3 = 56) la kU_s (Nat.le_of_ble_eq_true rfl) rfl rfl ?_
  rw [kU_kU]
  refine k_aload_n (i := 0) dX7_copyFrom_56 (rfl : 56 + 1 = 57) rfl rfl ?_
  refine k_aload_n (i := 1) dX7_copyFrom_57 (rfl : 57 + 1 = 58) rfl rfl ?_
  refine k_get 7 7 fg_X7_37 dX7_copyFrom_58 (rfl : 58 + 3 = 61) lb (Eq.trans (kU_n (Ne.symm n_a_b)) eB) rfl ?_
  refine k_put 7 7 fp_X7_37 dX7_copyFrom_61 (rfl : 61 + 3 = 64) la kU_s (Nat.le_of_ble_eq_true rfl) rfl rfl ?_
  rw [kU_kU]
  refine k_aload_n (i := 1) dX7_copyFrom_64 (rfl : 64 + 1 = 65) rfl rfl ?_
  refine k_get 7 8 fg_X7_18 dX7_copyFrom_65 (rfl : 65 + 3 = 68) lb (Eq.trans (kU_n (Ne.symm n_a_b)) eB) rfl ?_
  refine k_iconst (v := 0) dX7_copyFrom_68 (rfl : 68 + 1 = 69) (by decide) ?_
  refine k_aload_n (i := 0) dX7_copyFrom_69 (rfl : 69 + 1 = 70) rfl rfl ?_
  refine k_get 7 8 fg_X7_18 dX7_copyFrom_70 (rfl : 70 + 3 = 73) la kU_s rfl ?_
  refine k_iconst (v := 0) dX7_copyFrom_73 (rfl : 73 + 1 = 74) (by decide) ?_
  refine k_bipush (v := 8) dX7_copyFrom_74 (rfl : 74 + 2 = 76) (by decide) ?_
  refine k_copy (gm 735 (by decide +kernel) (by decide +kernel)) (gm 725 (by decide +kernel) (by decide +kernel)) (gm 724 (by decide +kernel) (by decide +kernel)) (gm 106 (by decide +kernel) (by decide +kernel)) dX7_copyFrom_76 (rfl : 76 + 3 = 79) lq0 (Eq.trans (kU_n (Ne.symm n_a_q0)) eQ0) lp0 (Eq.trans (kU_n (Ne.symm n_a_p0)) eP0) (by decide) (by decide) (by decide) (Nat.le_of_ble_eq_true rfl) (Nat.le_of_ble_eq_true rfl) ?_
  refine k_vret rfl dX7_copyFrom_79 (Nat.le_of_ble_eq_true rfl) (Nat.le_of_ble_eq_true rfl) ?_
  exact kRt_rfl
