/-- n things from b on -/
def putB (h : kH) (b n : Nat) (f : Nat → kE) : kH := fun i => cond (Nat.ble b i && Nat.blt i (b + n)) (f (i - b)) (h i)
theorem putB_i {h : kH} {b n t : Nat} {f : Nat → kE} (ht : t < n) : putB h b n f (b + t) = f t := by
  unfold putB
  rw [show Nat.ble b (b + t) = true from Nat.ble_eq_true_of_le (by omega), blt_t (show b + t < b + n by omega)]
  show f (b + t - b) = f t
  rw [Nat.add_sub_cancel_left]
theorem putB_n {h : kH} {b n i : Nat} {f : Nat → kE} (hi : i < b ∨ b + n ≤ i) : putB h b n f i = h i := by
  unfold putB
  rcases hi with hi | hi
  · have e : Nat.ble b i = false := by
      cases h9 : Nat.ble b i with
      | false => rfl
      | true => exact absurd (Nat.le_of_ble_eq_true h9) (by omega)
    rw [e]
    rfl
  · rw [blt_f (show b + n ≤ i from hi)]
    cases Nat.ble b i <;> rfl
set_option maxRecDepth 100000 in
set_option maxHeartbeats 4000000 in
theorem m_X10_init {h : kH} {b : Nat} (hb : b < 400) (h0 : h b = kO 10 [.long 0, .int 0, .int 0, .int 0, .int 0, .null]) : kMet kX10_init true 1 8 [.ref b] h (b + 1) (kRt none (kU (kU h (b + 1) (kI 8 (fun _ => 0))) b (kO 10 [.long 0, .int 0, .int 0, .int 0, .int 0, .ref (b + 1)])) (b + 2)) := by
  refine kMet.in (by decide) rfl rfl _ rfl ?_
  refine k_aload_n (i := 0) dX10_init_0 (rfl : 0 + 1 = 1) rfl rfl ?_
  refine k_oinit (gm 141 (by decide +kernel) (by decide +kernel)) (gm 128 (by decide +kernel) (by decide +kernel)) (gm 129 (by decide +kernel) (by decide +kernel)) dX10_init_1 (rfl : 1 + 3 = 4) (Nat.le_of_ble_eq_true rfl) (Nat.le_of_ble_eq_true rfl) ?_
  refine k_aload_n (i := 0) dX10_init_4 (rfl : 4 + 1 = 5) rfl rfl ?_
  refine k_bipush (v := 8) dX10_init_5 (rfl : 5 + 2 = 7) (by decide) ?_
  refine k_newa (t := 0) (n := 8) (N' := 8) (a0 := (8, .inl (fun _ => 0))) rfl rfl (fun C q => by cases q) (gm 170 (by decide +kernel) (by decide +kernel)) (fun _ => rfl) (fun _ => rfl) dX10_init_7 (rfl : 7 + 2 = 9) (by omega) (by decide) (by decide) (by decide) ⟨Nat.le_of_ble_eq_true rfl, Nat.le_of_ble_eq_true rfl⟩ ?_
  refine k_putF 10 5 fp_X10_9 rfl dX10_init_9 (rfl : 9 + 3 = 12) (by omega) (Eq.trans (kU_n (by omega)) h0) (Nat.le_of_ble_eq_true rfl) rfl rfl ?_
  refine k_vret rfl dX10_init_12 (Nat.le_of_ble_eq_true rfl) (Nat.le_of_ble_eq_true rfl) ?_
  exact kRt_rfl
set_option maxRecDepth 100000 in
set_option maxHeartbeats 4000000 in
theorem m_X3_init {h : kH} {b : Nat} (hb : b < 400) (h0 : h b = kO 3 [.int 0, .int 0, .int 0, .null, .null, .null]) : kMet kX3_init true 3 24 [.ref b] h (b + 1) (kRt none (kU (kU (kU (kU (kU (kU (kU h b (kO 3 [.int 0, .int (261888 : Int32), .int 0, .null, .null, .null])) (b + 1) (kI 8 (fun _ => 0))) b (kO 3 [.int 0, .int (261888 : Int32), .int 0, .ref (b + 1), .null, .null])) (b + 2) (kI 8 (fun _ => 0))) b (kO 3 [.int 0, .int (261888 : Int32), .int 0, .ref (b + 1), .ref (b + 2), .null])) (b + 3) (kI 8 (fun _ => 0))) b (kO 3 [.int 0, .int (261888 : Int32), .int 0, .ref (b + 1), .ref (b + 2), .ref (b + 3)])) (b + 4)) := by
  refine kMet.in (by decide) rfl rfl _ rfl ?_
  refine k_aload_n (i := 0) dX3_init_0 (rfl : 0 + 1 = 1) rfl rfl ?_
  refine k_oinit (gm 176 (by decide +kernel) (by decide +kernel)) (gm 128 (by decide +kernel) (by decide +kernel)) (gm 129 (by decide +kernel) (by decide +kernel)) dX3_init_1 (rfl : 1 + 3 = 4) (Nat.le_of_ble_eq_true rfl) (Nat.le_of_ble_eq_true rfl) ?_
  refine k_aload_n (i := 0) dX3_init_4 (rfl : 4 + 1 = 5) rfl rfl ?_
  refine k_ldc dX3_init_5 (rfl : 5 + 2 = 7) kc_X3_9 ?_
  refine k_put 3 1 fp_X3_10 dX3_init_7 (rfl : 7 + 3 = 10) (by omega) h0 (Nat.le_of_ble_eq_true rfl) rfl rfl ?_
  refine k_aload_n (i := 0) dX3_init_10 (rfl : 10 + 1 = 11) rfl rfl ?_
  refine k_bipush (v := 8) dX3_init_11 (rfl : 11 + 2 = 13) (by decide) ?_
  refine k_newa (t := 0) (n := 8) (N' := 8) (a0 := (8, .inl (fun _ => 0))) rfl rfl (fun C q => by cases q) (gm 170 (by decide +kernel) (by decide +kernel)) (fun _ => rfl) (fun _ => rfl) dX3_init_13 (rfl : 13 + 2 = 15) (by omega) (by decide) (by decide) (by decide) ⟨Nat.le_of_ble_eq_true rfl, Nat.le_of_ble_eq_true rfl⟩ ?_
  refine k_putF 3 3 fp_X3_16 rfl dX3_init_15 (rfl : 15 + 3 = 18) (by omega) (Eq.trans (kU_n (by omega)) kU_s) (Nat.le_of_ble_eq_true rfl) rfl rfl ?_
  refine k_aload_n (i := 0) dX3_init_18 (rfl : 18 + 1 = 19) rfl rfl ?_
  refine k_bipush (v := 8) dX3_init_19 (rfl : 19 + 2 = 21) (by decide) ?_
  refine k_newa (t := 0) (n := 8) (N' := 8) (a0 := (8, .inl (fun _ => 0))) rfl rfl (fun C q => by cases q) (gm 170 (by decide +kernel) (by decide +kernel)) (fun _ => rfl) (fun _ => rfl) dX3_init_21 (rfl : 21 + 2 = 23) (by omega) (by decide) (by decide) (by decide) ⟨Nat.le_of_ble_eq_true rfl, Nat.le_of_ble_eq_true rfl⟩ ?_
  refine k_putF 3 4 fp_X3_20 rfl dX3_init_23 (rfl : 23 + 3 = 26) (by omega) (Eq.trans (kU_n (by omega)) kU_s) (Nat.le_of_ble_eq_true rfl) rfl rfl ?_
  refine k_aload_n (i := 0) dX3_init_26 (rfl : 26 + 1 = 27) rfl rfl ?_
  refine k_bipush (v := 8) dX3_init_27 (rfl : 27 + 2 = 29) (by decide) ?_
  refine k_newa (t := 0) (n := 8) (N' := 8) (a0 := (8, .inl (fun _ => 0))) rfl rfl (fun C q => by cases q) (gm 170 (by decide +kernel) (by decide +kernel)) (fun _ => rfl) (fun _ => rfl) dX3_init_29 (rfl : 29 + 2 = 31) (by omega) (by decide) (by decide) (by decide) ⟨Nat.le_of_ble_eq_true rfl, Nat.le_of_ble_eq_true rfl⟩ ?_
  refine k_putF 3 5 fp_X3_23 rfl dX3_init_31 (rfl : 31 + 3 = 34) (by omega) (Eq.trans (kU_n (by omega)) kU_s) (Nat.le_of_ble_eq_true rfl) rfl rfl ?_
  refine k_vret rfl dX3_init_34 (Nat.le_of_ble_eq_true rfl) (Nat.le_of_ble_eq_true rfl) ?_
  exact kRt_rfl
set_option maxRecDepth 100000 in
set_option maxHeartbeats 4000000 in
theorem m_X7_init {h : kH} {b : Nat} (hb : b < 400) (h0 : h b = kO 7 [.int 0, .int 0, .int 0, .int 0, .int 0, .int 0, .int 0, .int 0, .null]) : kMet kX7_init true 1 8 [.ref b] h (b + 1) (kRt none (kU (kU (kU (kU h b (kO 7 [.int 10, .int 0, .int 0, .int 0, .int 0, .int 0, .int 0, .int 0, .null])) b (kO 7 [.int 10, .int 50, .int 0, .int 0, .int 0, .int 0, .int 0, .int 0, .null])) (b + 1) (kI 8 (fun _ => 0))) b (kO 7 [.int 10, .int 50, .int 0, .int 0, .int 0, .int 0, .int 0, .int 0, .ref (b + 1)])) (b + 2)) := by
  refine kMet.in (by decide) rfl rfl _ rfl ?_
  refine k_aload_n (i := 0) dX7_init_0 (rfl : 0 + 1 = 1) rfl rfl ?_
  refine k_oinit (gm 210 (by decide +kernel) (by decide +kernel)) (gm 128 (by decide +kernel) (by decide +kernel)) (gm 129 (by decide +kernel) (by decide +kernel)) dX7_init_1 (rfl : 1 + 3 = 4) (Nat.le_of_ble_eq_true rfl) (Nat.le_of_ble_eq_true rfl) ?_
  refine k_aload_n (i := 0) dX7_init_4 (rfl : 4 + 1 = 5) rfl rfl ?_
  refine k_bipush (v := 10) dX7_init_5 (rfl : 5 + 2 = 7) (by decide) ?_
  refine k_put 7 0 fp_X7_9 dX7_init_7 (rfl : 7 + 3 = 10) (by omega) h0 (Nat.le_of_ble_eq_true rfl) rfl rfl ?_
  refine k_aload_n (i := 0) dX7_init_10 (rfl : 10 + 1 = 11) rfl rfl ?_
  refine k_bipush (v := 50) dX7_init_11 (rfl : 11 + 2 = 13) (by decide) ?_
  refine k_put 7 1 fp_X7_15 dX7_init_13 (rfl : 13 + 3 = 16) (by omega) kU_s (Nat.le_of_ble_eq_true rfl) rfl rfl ?_
  refine k_aload_n (i := 0) dX7_init_16 (rfl : 16 + 1 = 17) rfl rfl ?_
  refine k_bipush (v := 8) dX7_init_17 (rfl : 17 + 2 = 19) (by decide) ?_
  refine k_newa (t := 0) (n := 8) (N' := 8) (a0 := (8, .inl (fun _ => 0))) rfl rfl (fun C q => by cases q) (gm 170 (by decide +kernel) (by decide +kernel)) (fun _ => rfl) (fun _ => rfl) dX7_init_19 (rfl : 19 + 2 = 21) (by omega) (by decide) (by decide) (by decide) ⟨Nat.le_of_ble_eq_true rfl, Nat.le_of_ble_eq_true rfl⟩ ?_
  refine k_putF 7 8 fp_X7_18 rfl dX7_init_21 (rfl : 21 + 3 = 24) (by omega) (Eq.trans (kU_n (by omega)) kU_s) (Nat.le_of_ble_eq_true rfl) rfl rfl ?_
  refine k_vret rfl dX7_init_24 (Nat.le_of_ble_eq_true rfl) (Nat.le_of_ble_eq_true rfl) ?_
  exact kRt_rfl
/-- the first core -/
def c00 : kCo := (0, fun k => if k = 5 then 261888 else if k = 7 then 10 else if k = 8 then 50 else 0, fun _ _ => 0)
theorem nw_X9_7 : kNw RX9 7 10 6 [.long 0, .int 0, .int 0, .int 0, .int 0, .null] := ⟨RX10, TX10, tyX10, rfl, inX10, tyX10_ok, (gm 136 (by decide +kernel) (by decide +kernel)), (gm 137 (by decide +kernel) (by decide +kernel)), (gm 90 (by decide +kernel) (by decide +kernel)), fun j hj => match j, hj with | 0, _ => rfl | 1, _ => rfl | 2, _ => rfl | 3, _ => rfl | 4, _ => rfl | 5, _ => rfl, fun _ => rfl⟩
theorem nw_X9_16 : kNw RX9 16 3 6 [.int 0, .int 0, .int 0, .null, .null, .null] := ⟨RX3, TX3, tyX3, rfl, inX3, tyX3_ok, (gm 171 (by decide +kernel) (by decide +kernel)), (gm 172 (by decide +kernel) (by decide +kernel)), (gm 91 (by decide +kernel) (by decide +kernel)), fun j hj => match j, hj with | 0, _ => rfl | 1, _ => rfl | 2, _ => rfl | 3, _ => rfl | 4, _ => rfl | 5, _ => rfl, fun _ => rfl⟩
theorem nw_X9_23 : kNw RX9 23 7 9 [.int 0, .int 0, .int 0, .int 0, .int 0, .int 0, .int 0, .int 0, .null] := ⟨RX7, TX7, tyX7, rfl, inX7, tyX7_ok, (gm 205 (by decide +kernel) (by decide +kernel)), (gm 206 (by decide +kernel) (by decide +kernel)), (gm 92 (by decide +kernel) (by decide +kernel)), fun j hj => match j, hj with | 0, _ => rfl | 1, _ => rfl | 2, _ => rfl | 3, _ => rfl | 4, _ => rfl | 5, _ => rfl | 6, _ => rfl | 7, _ => rfl | 8, _ => rfl, fun _ => rfl⟩
set_option maxRecDepth 100000 in
set_option maxHeartbeats 4000000 in
theorem m_X9_init {h : kH} {b : Nat} (hb : b < 400) (h0 : h b = kO 9 [.null, .null, .null]) : kMet kX9_init true 8 61 [.ref b] h (b + 1) (kRt none (putB h b 9 (kBl b c00)) (b + 9)) := by
  refine kMet.in (by decide) rfl rfl _ rfl ?_
  refine k_aload_n (i := 0) dX9_init_0 (rfl : 0 + 1 = 1) rfl rfl ?_
  refine k_oinit (gm 135 (by decide +kernel) (by decide +kernel)) (gm 128 (by decide +kernel) (by decide +kernel)) (gm 129 (by decide +kernel) (by decide +kernel)) dX9_init_1 (rfl : 1 + 3 = 4) (Nat.le_of_ble_eq_true rfl) (Nat.le_of_ble_eq_true rfl) ?_
  refine k_aload_n (i := 0) dX9_init_4 (rfl : 4 + 1 = 5) rfl rfl ?_
  refine k_new nw_X9_7 dX9_init_5 (rfl : 5 + 3 = 8) (by omega) ⟨Nat.le_of_ble_eq_true rfl, Nat.le_of_ble_eq_true rfl⟩ ?_
  refine k_dup dX9_init_8 (rfl : 8 + 1 = 9) rfl ?_
  refine k_callINv0 cv_X9_9 ⟨Nat.le_of_ble_eq_true rfl, Nat.le_of_ble_eq_true rfl⟩ (m_X10_init (by omega) kU_s) dX9_init_9 (rfl : 9 + 3 = 12) rfl ⟨Nat.le_of_ble_eq_true rfl, Nat.le_of_ble_eq_true rfl⟩ ?_
  refine k_putF 9 0 fp_X9_10 rfl dX9_init_12 (rfl : 12 + 3 = 15) (by omega) (Eq.trans (kU_n (by omega)) (Eq.trans (kU_n (by omega)) (Eq.trans (kU_n (by omega)) h0))) (Nat.le_of_ble_eq_true rfl) rfl rfl ?_
  refine k_aload_n (i := 0) dX9_init_15 (rfl : 15 + 1 = 16) rfl rfl ?_
  refine k_new nw_X9_16 dX9_init_16 (rfl : 16 + 3 = 19) (by omega) ⟨Nat.le_of_ble_eq_true rfl, Nat.le_of_ble_eq_true rfl⟩ ?_
  refine k_dup dX9_init_19 (rfl : 19 + 1 = 20) rfl ?_
  refine k_callINv0 cv_X9_18 ⟨Nat.le_of_ble_eq_true rfl, Nat.le_of_ble_eq_true rfl⟩ (m_X3_init (by omega) kU_s) dX9_init_20 (rfl : 20 + 3 = 23) rfl ⟨Nat.le_of_ble_eq_true rfl, Nat.le_of_ble_eq_true rfl⟩ ?_
  refine k_putF 9 1 fp_X9_19 rfl dX9_init_23 (rfl : 23 + 3 = 26) (by omega) (Eq.trans (kU_n (by omega)) (Eq.trans (kU_n (by omega)) (Eq.trans (kU_n (by omega)) (Eq.trans (kU_n (by omega)) (Eq.trans (kU_n (by omega)) (Eq.trans (kU_n (by omega)) (Eq.trans (kU_n (by omega)) (Eq.trans (kU_n (by omega)) kU_s)))))))) (Nat.le_of_ble_eq_true rfl) rfl rfl ?_
  refine k_aload_n (i := 0) dX9_init_26 (rfl : 26 + 1 = 27) rfl rfl ?_
  refine k_new nw_X9_23 dX9_init_27 (rfl : 27 + 3 = 30) (by omega) ⟨Nat.le_of_ble_eq_true rfl, Nat.le_of_ble_eq_true rfl⟩ ?_
  refine k_dup dX9_init_30 (rfl : 30 + 1 = 31) rfl ?_
  refine k_callINv0 cv_X9_25 ⟨Nat.le_of_ble_eq_true rfl, Nat.le_of_ble_eq_true rfl⟩ (m_X7_init (by omega) kU_s) dX9_init_31 (rfl : 31 + 3 = 34) rfl ⟨Nat.le_of_ble_eq_true rfl, Nat.le_of_ble_eq_true rfl⟩ ?_
  refine k_putF 9 2 fp_X9_26 rfl dX9_init_34 (rfl : 34 + 3 = 37) (by omega) (Eq.trans (kU_n (by omega)) (Eq.trans (kU_n (by omega)) (Eq.trans (kU_n (by omega)) (Eq.trans (kU_n (by omega)) (Eq.trans (kU_n (by omega)) kU_s))))) (Nat.le_of_ble_eq_true rfl) rfl rfl ?_
  refine k_vret rfl dX9_init_37 (Nat.le_of_ble_eq_true rfl) (Nat.le_of_ble_eq_true rfl) ?_
  refine kRt_of rfl ?_
  funext i
  by_cases hi : b ≤ i ∧ i < b + 9
  · obtain ⟨t, rfl⟩ : ∃ t, i = b + t := ⟨i - b, by omega⟩
    have ht : t < 9 := by omega
    rw [putB_i ht]
    match t, ht with
    | 0, _ => rw [kU_s]; rfl
    | 1, _ => rw [kU_n (by omega), kU_n (by omega), kU_n (by omega), kU_n (by omega), kU_n (by omega), kU_n (by omega), kU_n (by omega), kU_n (by omega), kU_n (by omega), kU_n (by omega), kU_n (by omega), kU_n (by omega), kU_n (by omega), kU_n (by omega), kU_n (by omega), kU_n (by omega), kU_s]; rfl
    | 2, _ => rw [kU_n (by omega), kU_n (by omega), kU_n (by omega), kU_n (by omega), kU_n (by omega), kU_n (by omega), kU_n (by omega), kU_n (by omega), kU_n (by omega), kU_n (by omega), kU_n (by omega), kU_n (by omega), kU_n (by omega), kU_n (by omega), kU_n (by omega), kU_n (by omega), kU_n (by omega), kU_s]; rfl
    | 3, _ => rw [kU_n (by omega), kU_n (by omega), kU_n (by omega), kU_n (by omega), kU_n (by omega), kU_n (by omega), kU_n (by omega), kU_s]; rfl
    | 4, _ => rw [kU_n (by omega), kU_n (by omega), kU_n (by omega), kU_n (by omega), kU_n (by omega), kU_n (by omega), kU_n (by omega), kU_n (by omega), kU_n (by omega), kU_n (by omega), kU_n (by omega), kU_n (by omega), kU_s]; rfl
    | 5, _ => rw [kU_n (by omega), kU_n (by omega), kU_n (by omega), kU_n (by omega), kU_n (by omega), kU_n (by omega), kU_n (by omega), kU_n (by omega), kU_n (by omega), kU_n (by omega), kU_s]; rfl
    | 6, _ => rw [kU_n (by omega), kU_n (by omega), kU_n (by omega), kU_n (by omega), kU_n (by omega), kU_n (by omega), kU_n (by omega), kU_n (by omega), kU_s]; rfl
    | 7, _ => rw [kU_n (by omega), kU_s]; rfl
    | 8, _ => rw [kU_n (by omega), kU_n (by omega), kU_s]; rfl
  · rw [putB_n (by omega), kU_n (by omega), kU_n (by omega), kU_n (by omega), kU_n (by omega), kU_n (by omega), kU_n (by omega), kU_n (by omega), kU_n (by omega), kU_n (by omega), kU_n (by omega), kU_n (by omega), kU_n (by omega), kU_n (by omega), kU_n (by omega), kU_n (by omega), kU_n (by omega), kU_n (by omega), kU_n (by omega), kU_n (by omega)]
set_option maxRecDepth 100000 in
set_option maxHeartbeats 4000000 in
theorem m_X4_init {h : kH} {b : Nat} (hb : b < 400) (h0 : h b = kO 4 [.null, .int 0, .int 0]) : kMet kX4_init true 1 36 [.ref b] h (b + 1) (kRt none (kU (kU h (b + 1) (kI 36 (fun _ => 0))) b (kO 4 [.ref (b + 1), .int 0, .int 0])) (b + 2)) := by
  refine kMet.in (by decide) rfl rfl _ rfl ?_
  refine k_aload_n (i := 0) dX4_init_0 (rfl : 0 + 1 = 1) rfl rfl ?_
  refine k_oinit (gm 285 (by decide +kernel) (by decide +kernel)) (gm 128 (by decide +kernel) (by decide +kernel)) (gm 129 (by decide +kernel) (by decide +kernel)) dX4_init_1 (rfl : 1 + 3 = 4) (Nat.le_of_ble_eq_true rfl) (Nat.le_of_ble_eq_true rfl) ?_
  refine k_aload_n (i := 0) dX4_init_4 (rfl : 4 + 1 = 5) rfl rfl ?_
  refine k_bipush (v := 36) dX4_init_5 (rfl : 5 + 2 = 7) (by decide) ?_
  refine k_newa (t := 0) (n := 36) (N' := 36) (a0 := (36, .inl (fun _ => 0))) rfl rfl (fun C q => by cases q) (gm 170 (by decide +kernel) (by decide +kernel)) (fun _ => rfl) (fun _ => rfl) dX4_init_7 (rfl : 7 + 2 = 9) (by omega) (by decide) (by decide) (by decide) ⟨Nat.le_of_ble_eq_true rfl, Nat.le_of_ble_eq_true rfl⟩ ?_
  refine k_putF 4 0 fp_X4_9 rfl dX4_init_9 (rfl : 9 + 3 = 12) (by omega) (Eq.trans (kU_n (by omega)) h0) (Nat.le_of_ble_eq_true rfl) rfl rfl ?_
  refine k_vret rfl dX4_init_12 (Nat.le_of_ble_eq_true rfl) (Nat.le_of_ble_eq_true rfl) ?_
  exact kRt_rfl
set_option maxRecDepth 100000 in
set_option maxHeartbeats 4000000 in
theorem m_X5_init {h : kH} {b : Nat} (hb : b < 400) (h0 : h b = kO 5 [.null, .null, .null, .null]) : kMet kX5_init true 4 82 [.ref b] h (b + 1) (kRt none (kU (kU (kU (kU (kU (kU (kU (kU h (b + 1) (kI 8 (fun _ => 0))) b (kO 5 [.ref (b + 1), .null, .null, .null])) (b + 2) (kI 8 (fun _ => 0))) b (kO 5 [.ref (b + 1), .ref (b + 2), .null, .null])) (b + 3) (kI 33 (fun _ => 0))) b (kO 5 [.ref (b + 1), .ref (b + 2), .ref (b + 3), .null])) (b + 4) (kI 33 (fun _ => 0))) b (kO 5 [.ref (b + 1), .ref (b + 2), .ref (b + 3), .ref (b + 4)])) (b + 5)) := by
  refine kMet.in (by decide) rfl rfl _ rfl ?_
  refine k_aload_n (i := 0) dX5_init_0 (rfl : 0 + 1 = 1) rfl rfl ?_
  refine k_oinit (gm 304 (by decide +kernel) (by decide +kernel)) (gm 128 (by decide +kernel) (by decide +kernel)) (gm 129 (by decide +kernel) (by decide +kernel)) dX5_init_1 (rfl : 1 + 3 = 4) (Nat.le_of_ble_eq_true rfl) (Nat.le_of_ble_eq_true rfl) ?_
  refine k_aload_n (i := 0) dX5_init_4 (rfl : 4 + 1 = 5) rfl rfl ?_
  refine k_bipush (v := 8) dX5_init_5 (rfl : 5 + 2 = 7) (by decide) ?_
  refine k_newa (t := 0) (n := 8) (N' := 8) (a0 := (8, .inl (fun _ => 0))) rfl rfl (fun C q => by cases q) (gm 170 (by decide +kernel) (by decide +kernel)) (fun _ => rfl) (fun _ => rfl) dX5_init_7 (rfl : 7 + 2 = 9) (by omega) (by decide) (by decide) (by decide) ⟨Nat.le_of_ble_eq_true rfl, Nat.le_of_ble_eq_true rfl⟩ ?_
  refine k_putF 5 0 fp_X5_9 rfl dX5_init_9 (rfl : 9 + 3 = 12) (by omega) (Eq.trans (kU_n (by omega)) h0) (Nat.le_of_ble_eq_true rfl) rfl rfl ?_
  refine k_aload_n (i := 0) dX5_init_12 (rfl : 12 + 1 = 13) rfl rfl ?_
  refine k_bipush (v := 8) dX5_init_13 (rfl : 13 + 2 = 15) (by decide) ?_
  refine k_newa (t := 0) (n := 8) (N' := 8) (a0 := (8, .inl (fun _ => 0))) rfl rfl (fun C q => by cases q) (gm 170 (by decide +kernel) (by decide +kernel)) (fun _ => rfl) (fun _ => rfl) dX5_init_15 (rfl : 15 + 2 = 17) (by omega) (by decide) (by decide) (by decide) ⟨Nat.le_of_ble_eq_true rfl, Nat.le_of_ble_eq_true rfl⟩ ?_
  refine k_putF 5 1 fp_X5_15 rfl dX5_init_17 (rfl : 17 + 3 = 20) (by omega) (Eq.trans (kU_n (by omega)) kU_s) (Nat.le_of_ble_eq_true rfl) rfl rfl ?_
  refine k_aload_n (i := 0) dX5_init_20 (rfl : 20 + 1 = 21) rfl rfl ?_
  refine k_bipush (v := 33) dX5_init_21 (rfl : 21 + 2 = 23) (by decide) ?_
  refine k_newa (t := 0) (n := 33) (N' := 33) (a0 := (33, .inl (fun _ => 0))) rfl rfl (fun C q => by cases q) (gm 170 (by decide +kernel) (by decide +kernel)) (fun _ => rfl) (fun _ => rfl) dX5_init_23 (rfl : 23 + 2 = 25) (by omega) (by decide) (by decide) (by decide) ⟨Nat.le_of_ble_eq_true rfl, Nat.le_of_ble_eq_true rfl⟩ ?_
  refine k_putF 5 2 fp_X5_18 rfl dX5_init_25 (rfl : 25 + 3 = 28) (by omega) (Eq.trans (kU_n (by omega)) kU_s) (Nat.le_of_ble_eq_true rfl) rfl rfl ?_
  refine k_aload_n (i := 0) dX5_init_28 (rfl : 28 + 1 = 29) rfl rfl ?_
  refine k_bipush (v := 33) dX5_init_29 (rfl : 29 + 2 = 31) (by decide) ?_
  refine k_newa (t := 0) (n := 33) (N' := 33) (a0 := (33, .inl (fun _ => 0))) rfl rfl (fun C q => by cases q) (gm 170 (by decide +kernel) (by decide +kernel)) (fun _ => rfl) (fun _ => rfl) dX5_init_31 (rfl : 31 + 2 = 33) (by omega) (by decide) (by decide) (by decide) ⟨Nat.le_of_ble_eq_true rfl, Nat.le_of_ble_eq_true rfl⟩ ?_
  refine k_putF 5 3 fp_X5_21 rfl dX5_init_33 (rfl : 33 + 3 = 36) (by omega) (Eq.trans (kU_n (by omega)) kU_s) (Nat.le_of_ble_eq_true rfl) rfl rfl ?_
  refine k_vret rfl dX5_init_36 (Nat.le_of_ble_eq_true rfl) (Nat.le_of_ble_eq_true rfl) ?_
  exact kRt_rfl
set_option maxRecDepth 100000 in
set_option maxHeartbeats 4000000 in
theorem m_X2_init {h : kH} {b : Nat} (hb : b < 400) (h0 : h b = kO 2 [.null, .int 0, .int 0, .int 0, .null, .null]) : kMet kX2_init true 3 104 [.ref b] h (b + 1) (kRt none (kU (kU (kU (kU (kU (kU h (b + 1) (kCh 60 (fun _ => 0))) b (kO 2 [.ref (b + 1), .int 0, .int 0, .int 0, .null, .null])) (b + 2) (kRf 5 11 (fun _ => none))) b (kO 2 [.ref (b + 1), .int 0, .int 0, .int 0, .ref (b + 2), .null])) (b + 3) (kI 33 (fun _ => 0))) b (kO 2 [.ref (b + 1), .int 0, .int 0, .int 0, .ref (b + 2), .ref (b + 3)])) (b + 4)) := by
  refine kMet.in (by decide) rfl rfl _ rfl ?_
  refine k_aload_n (i := 0) dX2_init_0 (rfl : 0 + 1 = 1) rfl rfl ?_
  refine k_oinit (gm 323 (by decide +kernel) (by decide +kernel)) (gm 128 (by decide +kernel) (by decide +kernel)) (gm 129 (by decide +kernel) (by decide +kernel)) dX2_init_1 (rfl : 1 + 3 = 4) (Nat.le_of_ble_eq_true rfl) (Nat.le_of_ble_eq_true rfl) ?_
  refine k_aload_n (i := 0) dX2_init_4 (rfl : 4 + 1 = 5) rfl rfl ?_
  refine k_bipush (v := 60) dX2_init_5 (rfl : 5 + 2 = 7) (by decide) ?_
  refine k_newa (t := 1) (n := 60) (N' := 60) (a0 := (60, .inl (fun _ => 0))) rfl rfl (fun C q => by cases q) (gm 348 (by decide +kernel) (by decide +kernel)) (fun _ => rfl) (fun _ => rfl) dX2_init_7 (rfl : 7 + 2 = 9) (by omega) (by decide) (by decide) (by decide) ⟨Nat.le_of_ble_eq_true rfl, Nat.le_of_ble_eq_true rfl⟩ ?_
  refine k_putF 2 0 fp_X2_9 rfl dX2_init_9 (rfl : 9 + 3 = 12) (by omega) (Eq.trans (kU_n (by omega)) h0) (Nat.le_of_ble_eq_true rfl) rfl rfl ?_
  refine k_aload_n (i := 0) dX2_init_12 (rfl : 12 + 1 = 13) rfl rfl ?_
  refine k_bipush (v := 11) dX2_init_13 (rfl : 13 + 2 = 15) (by decide) ?_
  refine k_newq (t := 5) (n := 11) (N' := 11) rfl (gm 324 (by decide +kernel) (by decide +kernel)) (gm 325 (by decide +kernel) (by decide +kernel)) dX2_init_15 (rfl : 15 + 3 = 18) (by omega) (by decide) (by decide) (by decide) ⟨Nat.le_of_ble_eq_true rfl, Nat.le_of_ble_eq_true rfl⟩ ?_
  refine k_putF 2 4 fp_X2_17 rfl dX2_init_18 (rfl : 18 + 3 = 21) (by omega) (Eq.trans (kU_n (by omega)) kU_s) (Nat.le_of_ble_eq_true rfl) rfl rfl ?_
  refine k_aload_n (i := 0) dX2_init_21 (rfl : 21 + 1 = 22) rfl rfl ?_
  refine k_bipush (v := 33) dX2_init_22 (rfl : 22 + 2 = 24) (by decide) ?_
  refine k_newa (t := 0) (n := 33) (N' := 33) (a0 := (33, .inl (fun _ => 0))) rfl rfl (fun C q => by cases q) (gm 170 (by decide +kernel) (by decide +kernel)) (fun _ => rfl) (fun _ => rfl) dX2_init_24 (rfl : 24 + 2 = 26) (by omega) (by decide) (by decide) (by decide) ⟨Nat.le_of_ble_eq_true rfl, Nat.le_of_ble_eq_true rfl⟩ ?_
  refine k_putF 2 5 fp_X2_21 rfl dX2_init_26 (rfl : 26 + 3 = 29) (by omega) (Eq.trans (kU_n (by omega)) kU_s) (Nat.le_of_ble_eq_true rfl) rfl rfl ?_
  refine k_vret rfl dX2_init_29 (Nat.le_of_ble_eq_true rfl) (Nat.le_of_ble_eq_true rfl) ?_
  exact kRt_rfl
set_option maxRecDepth 100000 in
set_option maxHeartbeats 4000000 in
theorem m_X8_init {h : kH} {b : Nat} (hb : b < 400) (h0 : h b = kO 8 [.null, .int 0]) : kMet kX8_init true 1 32 [.ref b] h (b + 1) (kRt none (kU (kU h (b + 1) (kCh 32 (fun _ => 0))) b (kO 8 [.ref (b + 1), .int 0])) (b + 2)) := by
  refine kMet.in (by decide) rfl rfl _ rfl ?_
  refine k_aload_n (i := 0) dX8_init_0 (rfl : 0 + 1 = 1) rfl rfl ?_
  refine k_oinit (gm 354 (by decide +kernel) (by decide +kernel)) (gm 128 (by decide +kernel) (by decide +kernel)) (gm 129 (by decide +kernel) (by decide +kernel)) dX8_init_1 (rfl : 1 + 3 = 4) (Nat.le_of_ble_eq_true rfl) (Nat.le_of_ble_eq_true rfl) ?_
  refine k_aload_n (i := 0) dX8_init_4 (rfl : 4 + 1 = 5) rfl rfl ?_
  refine k_bipush (v := 32) dX8_init_5 (rfl : 5 + 2 = 7) (by decide) ?_
  refine k_newa (t := 1) (n := 32) (N' := 32) (a0 := (32, .inl (fun _ => 0))) rfl rfl (fun C q => by cases q) (gm 348 (by decide +kernel) (by decide +kernel)) (fun _ => rfl) (fun _ => rfl) dX8_init_7 (rfl : 7 + 2 = 9) (by omega) (by decide) (by decide) (by decide) ⟨Nat.le_of_ble_eq_true rfl, Nat.le_of_ble_eq_true rfl⟩ ?_
  refine k_putF 8 0 fp_X8_7 rfl dX8_init_9 (rfl : 9 + 3 = 12) (by omega) (Eq.trans (kU_n (by omega)) h0) (Nat.le_of_ble_eq_true rfl) rfl rfl ?_
  refine k_vret rfl dX8_init_12 (Nat.le_of_ble_eq_true rfl) (Nat.le_of_ble_eq_true rfl) ?_
  exact kRt_rfl
theorem nw_X6_9 : kNw RX6 9 9 3 [.null, .null, .null] := ⟨RX9, TX9, tyX9, rfl, inX9, tyX9_ok, (gm 266 (by decide +kernel) (by decide +kernel)), (gm 131 (by decide +kernel) (by decide +kernel)), (gm 89 (by decide +kernel) (by decide +kernel)), fun j hj => match j, hj with | 0, _ => rfl | 1, _ => rfl | 2, _ => rfl, fun _ => rfl⟩
set_option maxRecDepth 100000 in
set_option maxHeartbeats 4000000 in
theorem m_X6_init {h : kH} (h0 : h 28 = kO 6 [.null, .int 0, .int 0]) : kMet kX6_init true 73 520 [.ref 28] h 29 (kRt none (kU (putB (kU (kU (putB (kU (kU (putB (kU (kU (putB (kU (kU (putB (kU (kU (putB (kU (kU (putB (kU (kU (putB (kU (kU (kU h 29 (kRf 4 8 (fun _ => none))) 28 (kO 6 [.ref 29, .int 0, .int 0])) 30 (kO 9 [.null, .null, .null])) 30 9 (kBl 30 c00)) 29 (kRf 4 8 (va_up (fun _ => none) (Int32.toNatClampNeg 0) (some 30)))) 39 (kO 9 [.null, .null, .null])) 39 9 (kBl 39 c00)) 29 (kRf 4 8 (va_up (va_up (fun _ => none) (Int32.toNatClampNeg 0) (some 30)) (Int32.toNatClampNeg 1) (some 39)))) 48 (kO 9 [.null, .null, .null])) 48 9 (kBl 48 c00)) 29 (kRf 4 8 (va_up (va_up (va_up (fun _ => none) (Int32.toNatClampNeg 0) (some 30)) (Int32.toNatClampNeg 1) (some 39)) (Int32.toNatClampNeg 2) (some 48)))) 57 (kO 9 [.null, .null, .null])) 57 9 (kBl 57 c00)) 29 (kRf 4 8 (va_up (va_up (va_up (va_up (fun _ => none) (Int32.toNatClampNeg 0) (some 30)) (Int32.toNatClampNeg 1) (some 39)) (Int32.toNatClampNeg 2) (some 48)) (Int32.toNatClampNeg 3) (some 57)))) 66 (kO 9 [.null, .null, .null])) 66 9 (kBl 66 c00)) 29 (kRf 4 8 (va_up (va_up (va_up (va_up (va_up (fun _ => none) (Int32.toNatClampNeg 0) (some 30)) (Int32.toNatClampNeg 1) (some 39)) (Int32.toNatClampNeg 2) (some 48)) (Int32.toNatClampNeg 3) (some 57)) (Int32.toNatClampNeg 4) (some 66)))) 75 (kO 9 [.null, .null, .null])) 75 9 (kBl 75 c00)) 29 (kRf 4 8 (va_up (va_up (va_up (va_up (va_up (va_up (fun _ => none) (Int32.toNatClampNeg 0) (some 30)) (Int32.toNatClampNeg 1) (some 39)) (Int32.toNatClampNeg 2) (some 48)) (Int32.toNatClampNeg 3) (some 57)) (Int32.toNatClampNeg 4) (some 66)) (Int32.toNatClampNeg 5) (some 75)))) 84 (kO 9 [.null, .null, .null])) 84 9 (kBl 84 c00)) 29 (kRf 4 8 (va_up (va_up (va_up (va_up (va_up (va_up (va_up (fun _ => none) (Int32.toNatClampNeg 0) (some 30)) (Int32.toNatClampNeg 1) (some 39)) (Int32.toNatClampNeg 2) (some 48)) (Int32.toNatClampNeg 3) (some 57)) (Int32.toNatClampNeg 4) (some 66)) (Int32.toNatClampNeg 5) (some 75)) (Int32.toNatClampNeg 6) (some 84)))) 93 (kO 9 [.null, .null, .null])) 93 9 (kBl 93 c00)) 29 (kRf 4 8 (va_up (va_up (va_up (va_up (va_up (va_up (va_up (va_up (fun _ => none) (Int32.toNatClampNeg 0) (some 30)) (Int32.toNatClampNeg 1) (some 39)) (Int32.toNatClampNeg 2) (some 48)) (Int32.toNatClampNeg 3) (some 57)) (Int32.toNatClampNeg 4) (some 66)) (Int32.toNatClampNeg 5) (some 75)) (Int32.toNatClampNeg 6) (some 84)) (Int32.toNatClampNeg 7) (some 93)))) 102) := by
  refine kMet.in (by decide) rfl rfl _ rfl ?_
  refine k_aload_n (i := 0) dX6_init_0 (rfl : 0 + 1 = 1) rfl rfl ?_
  refine k_oinit (gm 265 (by decide +kernel) (by decide +kernel)) (gm 128 (by decide +kernel) (by decide +kernel)) (gm 129 (by decide +kernel) (by decide +kernel)) dX6_init_1 (rfl : 1 + 3 = 4) (Nat.le_of_ble_eq_true rfl) (Nat.le_of_ble_eq_true rfl) ?_
  refine k_aload_n (i := 0) dX6_init_4 (rfl : 4 + 1 = 5) rfl rfl ?_
  refine k_bipush (v := 8) dX6_init_5 (rfl : 5 + 2 = 7) (by decide) ?_
  refine k_newq (t := 4) (n := 8) (N' := 8) rfl (gm 266 (by decide +kernel) (by decide +kernel)) (gm 267 (by decide +kernel) (by decide +kernel)) dX6_init_7 (rfl : 7 + 3 = 10) (by omega) (by decide) (by decide) (by decide) ⟨Nat.le_of_ble_eq_true rfl, Nat.le_of_ble_eq_true rfl⟩ ?_
  refine k_putF 6 0 fp_X6_11 rfl dX6_init_10 (rfl : 10 + 3 = 13) (by omega) (Eq.trans (kU_n (by omega)) h0) (Nat.le_of_ble_eq_true rfl) rfl rfl ?_
  refine k_iconst (v := 0) dX6_init_13 (rfl : 13 + 1 = 14) (by decide) ?_
  refine k_istore_n (i := 1) dX6_init_14 (rfl : 14 + 1 = 15) rfl (Nat.le_of_ble_eq_true rfl) ?_
  refine k_ls (ls2 := [.ref 28, .int 0]) rfl ?_
  refine k_iload_n (i := 1) dX6_init_15 (rfl : 15 + 1 = 16) rfl rfl ?_
  refine k_bipush (v := 8) dX6_init_16 (rfl : 16 + 2 = 18) (by decide) ?_
  refine k_icmp_ge (tgt := 40) dX6_init_18 (rfl : 18 + 3 = 21) (by decide) (fun b9 => by exact absurd b9 (by decide)) (fun b9 => ?_)
  refine k_aload_n (i := 0) dX6_init_21 (rfl : 21 + 1 = 22) rfl rfl ?_
  refine k_get 6 0 fg_X6_11 dX6_init_22 (rfl : 22 + 3 = 25) (by omega) kU_s (Nat.le_of_ble_eq_true rfl) rfl ?_
  refine k_iload_n (i := 1) dX6_init_25 (rfl : 25 + 1 = 26) rfl rfl ?_
  refine k_new nw_X6_9 dX6_init_26 (rfl : 26 + 3 = 29) (by omega) ⟨Nat.le_of_ble_eq_true rfl, Nat.le_of_ble_eq_true rfl⟩ ?_
  refine k_dup dX6_init_29 (rfl : 29 + 1 = 30) rfl ?_
  refine k_callINv0 cv_X6_17 ⟨Nat.le_of_ble_eq_true rfl, Nat.le_of_ble_eq_true rfl⟩ (m_X9_init (by omega) kU_s) dX6_init_30 (rfl : 30 + 3 = 33) rfl ⟨Nat.le_of_ble_eq_true rfl, Nat.le_of_ble_eq_true rfl⟩ ?_
  refine k_sast (f := (fun _ => none)) dX6_init_33 (rfl : 33 + 1 = 34) (by omega) (Eq.trans (putB_n (by omega)) (Eq.trans (kU_n (by omega)) (Eq.trans (kU_n (by omega)) kU_s))) (vp_in_iff.mpr (by decide)) (by omega) (putB_i (t := 0) (by omega)) ?_
  refine k_iinc (i := 1) (v := 1) dX6_init_34 (rfl : 34 + 3 = 37) rfl (Nat.le_of_ble_eq_true rfl) (by decide) ?_
  refine k_ls (ls2 := [.ref 28, .int 1]) rfl ?_
  refine k_goto (tgt := 15) dX6_init_37 (by decide) ?_
  refine k_iload_n (i := 1) dX6_init_15 (rfl : 15 + 1 = 16) rfl rfl ?_
  refine k_bipush (v := 8) dX6_init_16 (rfl : 16 + 2 = 18) (by decide) ?_
  refine k_icmp_ge (tgt := 40) dX6_init_18 (rfl : 18 + 3 = 21) (by decide) (fun b9 => by exact absurd b9 (by decide)) (fun b9 => ?_)
  refine k_aload_n (i := 0) dX6_init_21 (rfl : 21 + 1 = 22) rfl rfl ?_
  refine k_get 6 0 fg_X6_11 dX6_init_22 (rfl : 22 + 3 = 25) (by omega) (Eq.trans (kU_n (by omega)) (Eq.trans (putB_n (by omega)) (Eq.trans (kU_n (by omega)) kU_s))) (Nat.le_of_ble_eq_true rfl) rfl ?_
  refine k_iload_n (i := 1) dX6_init_25 (rfl : 25 + 1 = 26) rfl rfl ?_
  refine k_new nw_X6_9 dX6_init_26 (rfl : 26 + 3 = 29) (by omega) ⟨Nat.le_of_ble_eq_true rfl, Nat.le_of_ble_eq_true rfl⟩ ?_
  refine k_dup dX6_init_29 (rfl : 29 + 1 = 30) rfl ?_
  refine k_callINv0 cv_X6_17 ⟨Nat.le_of_ble_eq_true rfl, Nat.le_of_ble_eq_true rfl⟩ (m_X9_init (by omega) kU_s) dX6_init_30 (rfl : 30 + 3 = 33) rfl ⟨Nat.le_of_ble_eq_true rfl, Nat.le_of_ble_eq_true rfl⟩ ?_
  refine k_sast (f := (va_up (fun _ => none) (Int32.toNatClampNeg 0) (some 30))) dX6_init_33 (rfl : 33 + 1 = 34) (by omega) (Eq.trans (putB_n (by omega)) (Eq.trans (kU_n (by omega)) kU_s)) (vp_in_iff.mpr (by decide)) (by omega) (putB_i (t := 0) (by omega)) ?_
  refine k_iinc (i := 1) (v := 2) dX6_init_34 (rfl : 34 + 3 = 37) rfl (Nat.le_of_ble_eq_true rfl) (by decide) ?_
  refine k_ls (ls2 := [.ref 28, .int 2]) rfl ?_
  refine k_goto (tgt := 15) dX6_init_37 (by decide) ?_
  refine k_iload_n (i := 1) dX6_init_15 (rfl : 15 + 1 = 16) rfl rfl ?_
  refine k_bipush (v := 8) dX6_init_16 (rfl : 16 + 2 = 18) (by decide) ?_
  refine k_icmp_ge (tgt := 40) dX6_init_18 (rfl : 18 + 3 = 21) (by decide) (fun b9 => by exact absurd b9 (by decide)) (fun b9 => ?_)
  refine k_aload_n (i := 0) dX6_init_21 (rfl : 21 + 1 = 22) rfl rfl ?_
  refine k_get 6 0 fg_X6_11 dX6_init_22 (rfl : 22 + 3 = 25) (by omega) (Eq.trans (kU_n (by omega)) (Eq.trans (putB_n (by omega)) (Eq.trans (kU_n (by omega)) (Eq.trans (kU_n (by omega)) (Eq.trans (putB_n (by omega)) (Eq.trans (kU_n (by omega)) kU_s)))))) (Nat.le_of_ble_eq_true rfl) rfl ?_
  refine k_iload_n (i := 1) dX6_init_25 (rfl : 25 + 1 = 26) rfl rfl ?_
  refine k_new nw_X6_9 dX6_init_26 (rfl : 26 + 3 = 29) (by omega) ⟨Nat.le_of_ble_eq_true rfl, Nat.le_of_ble_eq_true rfl⟩ ?_
  refine k_dup dX6_init_29 (rfl : 29 + 1 = 30) rfl ?_
  refine k_callINv0 cv_X6_17 ⟨Nat.le_of_ble_eq_true rfl, Nat.le_of_ble_eq_true rfl⟩ (m_X9_init (by omega) kU_s) dX6_init_30 (rfl : 30 + 3 = 33) rfl ⟨Nat.le_of_ble_eq_true rfl, Nat.le_of_ble_eq_true rfl⟩ ?_
  refine k_sast (f := (va_up (va_up (fun _ => none) (Int32.toNatClampNeg 0) (some 30)) (Int32.toNatClampNeg 1) (some 39))) dX6_init_33 (rfl : 33 + 1 = 34) (by omega) (Eq.trans (putB_n (by omega)) (Eq.trans (kU_n (by omega)) kU_s)) (vp_in_iff.mpr (by decide)) (by omega) (putB_i (t := 0) (by omega)) ?_
  refine k_iinc (i := 1) (v := 3) dX6_init_34 (rfl : 34 + 3 = 37) rfl (Nat.le_of_ble_eq_true rfl) (by decide) ?_
  refine k_ls (ls2 := [.ref 28, .int 3]) rfl ?_
  refine k_goto (tgt := 15) dX6_init_37 (by decide) ?_
  refine k_iload_n (i := 1) dX6_init_15 (rfl : 15 + 1 = 16) rfl rfl ?_
  refine k_bipush (v := 8) dX6_init_16 (rfl : 16 + 2 = 18) (by decide) ?_
  refine k_icmp_ge (tgt := 40) dX6_init_18 (rfl : 18 + 3 = 21) (by decide) (fun b9 => by exact absurd b9 (by decide)) (fun b9 => ?_)
  refine k_aload_n (i := 0) dX6_init_21 (rfl : 21 + 1 = 22) rfl rfl ?_
  refine k_get 6 0 fg_X6_11 dX6_init_22 (rfl : 22 + 3 = 25) (by omega) (Eq.trans (kU_n (by omega)) (Eq.trans (putB_n (by omega)) (Eq.trans (kU_n (by omega)) (Eq.trans (kU_n (by omega)) (Eq.trans (putB_n (by omega)) (Eq.trans (kU_n (by omega)) (Eq.trans (kU_n (by omega)) (Eq.trans (putB_n (by omega)) (Eq.trans (kU_n (by omega)) kU_s))))))))) (Nat.le_of_ble_eq_true rfl) rfl ?_
  refine k_iload_n (i := 1) dX6_init_25 (rfl : 25 + 1 = 26) rfl rfl ?_
  refine k_new nw_X6_9 dX6_init_26 (rfl : 26 + 3 = 29) (by omega) ⟨Nat.le_of_ble_eq_true rfl, Nat.le_of_ble_eq_true rfl⟩ ?_
  refine k_dup dX6_init_29 (rfl : 29 + 1 = 30) rfl ?_
  refine k_callINv0 cv_X6_17 ⟨Nat.le_of_ble_eq_true rfl, Nat.le_of_ble_eq_true rfl⟩ (m_X9_init (by omega) kU_s) dX6_init_30 (rfl : 30 + 3 = 33) rfl ⟨Nat.le_of_ble_eq_true rfl, Nat.le_of_ble_eq_true rfl⟩ ?_
  refine k_sast (f := (va_up (va_up (va_up (fun _ => none) (Int32.toNatClampNeg 0) (some 30)) (Int32.toNatClampNeg 1) (some 39)) (Int32.toNatClampNeg 2) (some 48))) dX6_init_33 (rfl : 33 + 1 = 34) (by omega) (Eq.trans (putB_n (by omega)) (Eq.trans (kU_n (by omega)) kU_s)) (vp_in_iff.mpr (by decide)) (by omega) (putB_i (t := 0) (by omega)) ?_
  refine k_iinc (i := 1) (v := 4) dX6_init_34 (rfl : 34 + 3 = 37) rfl (Nat.le_of_ble_eq_true rfl) (by decide) ?_
  refine k_ls (ls2 := [.ref 28, .int 4]) rfl ?_
  refine k_goto (tgt := 15) dX6_init_37 (by decide) ?_
  refine k_iload_n (i := 1) dX6_init_15 (rfl : 15 + 1 = 16) rfl rfl ?_
  refine k_bipush (v := 8) dX6_init_16 (rfl : 16 + 2 = 18) (by decide) ?_
  refine k_icmp_ge (tgt := 40) dX6_init_18 (rfl : 18 + 3 = 21) (by decide) (fun b9 => by exact absurd b9 (by decide)) (fun b9 => ?_)
  refine k_aload_n (i := 0) dX6_init_21 (rfl : 21 + 1 = 22) rfl rfl ?_
  refine k_get 6 0 fg_X6_11 dX6_init_22 (rfl : 22 + 3 = 25) (by omega) (Eq.trans (kU_n (by omega)) (Eq.trans (putB_n (by omega)) (Eq.trans (kU_n (by omega)) (Eq.trans (kU_n (by omega)) (Eq.trans (putB_n (by omega)) (Eq.trans (kU_n (by omega)) (Eq.trans (kU_n (by omega)) (Eq.trans (putB_n (by omega)) (Eq.trans (kU_n (by omega)) (Eq.trans (kU_n (by omega)) (Eq.trans (putB_n (by omega)) (Eq.trans (kU_n (by omega)) kU_s)))))))))))) (Nat.le_of_ble_eq_true rfl) rfl ?_
  refine k_iload_n (i := 1) dX6_init_25 (rfl : 25 + 1 = 26) rfl rfl ?_
  refine k_new nw_X6_9 dX6_init_26 (rfl : 26 + 3 = 29) (by omega) ⟨Nat.le_of_ble_eq_true rfl, Nat.le_of_ble_eq_true rfl⟩ ?_
  refine k_dup dX6_init_29 (rfl : 29 + 1 = 30) rfl ?_
  refine k_callINv0 cv_X6_17 ⟨Nat.le_of_ble_eq_true rfl, Nat.le_of_ble_eq_true rfl⟩ (m_X9_init (by omega) kU_s) dX6_init_30 (rfl : 30 + 3 = 33) rfl ⟨Nat.le_of_ble_eq_true rfl, Nat.le_of_ble_eq_true rfl⟩ ?_
  refine k_sast (f := (va_up (va_up (va_up (va_up (fun _ => none) (Int32.toNatClampNeg 0) (some 30)) (Int32.toNatClampNeg 1) (some 39)) (Int32.toNatClampNeg 2) (some 48)) (Int32.toNatClampNeg 3) (some 57))) dX6_init_33 (rfl : 33 + 1 = 34) (by omega) (Eq.trans (putB_n (by omega)) (Eq.trans (kU_n (by omega)) kU_s)) (vp_in_iff.mpr (by decide)) (by omega) (putB_i (t := 0) (by omega)) ?_
  refine k_iinc (i := 1) (v := 5) dX6_init_34 (rfl : 34 + 3 = 37) rfl (Nat.le_of_ble_eq_true rfl) (by decide) ?_
  refine k_ls (ls2 := [.ref 28, .int 5]) rfl ?_
  refine k_goto (tgt := 15) dX6_init_37 (by decide) ?_
  refine k_iload_n (i := 1) dX6_init_15 (rfl : 15 + 1 = 16) rfl rfl ?_
  refine k_bipush (v := 8) dX6_init_16 (rfl : 16 + 2 = 18) (by decide) ?_
  refine k_icmp_ge (tgt := 40) dX6_init_18 (rfl : 18 + 3 = 21) (by decide) (fun b9 => by exact absurd b9 (by decide)) (fun b9 => ?_)
  refine k_aload_n (i := 0) dX6_init_21 (rfl : 21 + 1 = 22) rfl rfl ?_
  refine k_get 6 0 fg_X6_11 dX6_init_22 (rfl : 22 + 3 = 25) (by omega) (Eq.trans (kU_n (by omega)) (Eq.trans (putB_n (by omega)) (Eq.trans (kU_n (by omega)) (Eq.trans (kU_n (by omega)) (Eq.trans (putB_n (by omega)) (Eq.trans (kU_n (by omega)) (Eq.trans (kU_n (by omega)) (Eq.trans (putB_n (by omega)) (Eq.trans (kU_n (by omega)) (Eq.trans (kU_n (by omega)) (Eq.trans (putB_n (by omega)) (Eq.trans (kU_n (by omega)) (Eq.trans (kU_n (by omega)) (Eq.trans (putB_n (by omega)) (Eq.trans (kU_n (by omega)) kU_s))))))))))))))) (Nat.le_of_ble_eq_true rfl) rfl ?_
  refine k_iload_n (i := 1) dX6_init_25 (rfl : 25 + 1 = 26) rfl rfl ?_
  refine k_new nw_X6_9 dX6_init_26 (rfl : 26 + 3 = 29) (by omega) ⟨Nat.le_of_ble_eq_true rfl, Nat.le_of_ble_eq_true rfl⟩ ?_
  refine k_dup dX6_init_29 (rfl : 29 + 1 = 30) rfl ?_
  refine k_callINv0 cv_X6_17 ⟨Nat.le_of_ble_eq_true rfl, Nat.le_of_ble_eq_true rfl⟩ (m_X9_init (by omega) kU_s) dX6_init_30 (rfl : 30 + 3 = 33) rfl ⟨Nat.le_of_ble_eq_true rfl, Nat.le_of_ble_eq_true rfl⟩ ?_
  refine k_sast (f := (va_up (va_up (va_up (va_up (va_up (fun _ => none) (Int32.toNatClampNeg 0) (some 30)) (Int32.toNatClampNeg 1) (some 39)) (Int32.toNatClampNeg 2) (some 48)) (Int32.toNatClampNeg 3) (some 57)) (Int32.toNatClampNeg 4) (some 66))) dX6_init_33 (rfl : 33 + 1 = 34) (by omega) (Eq.trans (putB_n (by omega)) (Eq.trans (kU_n (by omega)) kU_s)) (vp_in_iff.mpr (by decide)) (by omega) (putB_i (t := 0) (by omega)) ?_
  refine k_iinc (i := 1) (v := 6) dX6_init_34 (rfl : 34 + 3 = 37) rfl (Nat.le_of_ble_eq_true rfl) (by decide) ?_
  refine k_ls (ls2 := [.ref 28, .int 6]) rfl ?_
  refine k_goto (tgt := 15) dX6_init_37 (by decide) ?_
  refine k_iload_n (i := 1) dX6_init_15 (rfl : 15 + 1 = 16) rfl rfl ?_
  refine k_bipush (v := 8) dX6_init_16 (rfl : 16 + 2 = 18) (by decide) ?_
  refine k_icmp_ge (tgt := 40) dX6_init_18 (rfl : 18 + 3 = 21) (by decide) (fun b9 => by exact absurd b9 (by decide)) (fun b9 => ?_)
  refine k_aload_n (i := 0) dX6_init_21 (rfl : 21 + 1 = 22) rfl rfl ?_
  refine k_get 6 0 fg_X6_11 dX6_init_22 (rfl : 22 + 3 = 25) (by omega) (Eq.trans (kU_n (by omega)) (Eq.trans (putB_n (by omega)) (Eq.trans (kU_n (by omega)) (Eq.trans (kU_n (by omega)) (Eq.trans (putB_n (by omega)) (Eq.trans (kU_n (by omega)) (Eq.trans (kU_n (by omega)) (Eq.trans (putB_n (by omega)) (Eq.trans (kU_n (by omega)) (Eq.trans (kU_n (by omega)) (Eq.trans (putB_n (by omega)) (Eq.trans (kU_n (by omega)) (Eq.trans (kU_n (by omega)) (Eq.trans (putB_n (by omega)) (Eq.trans (kU_n (by omega)) (Eq.trans (kU_n (by omega)) (Eq.trans (putB_n (by omega)) (Eq.trans (kU_n (by omega)) kU_s)))))))))))))))))) (Nat.le_of_ble_eq_true rfl) rfl ?_
  refine k_iload_n (i := 1) dX6_init_25 (rfl : 25 + 1 = 26) rfl rfl ?_
  refine k_new nw_X6_9 dX6_init_26 (rfl : 26 + 3 = 29) (by omega) ⟨Nat.le_of_ble_eq_true rfl, Nat.le_of_ble_eq_true rfl⟩ ?_
  refine k_dup dX6_init_29 (rfl : 29 + 1 = 30) rfl ?_
  refine k_callINv0 cv_X6_17 ⟨Nat.le_of_ble_eq_true rfl, Nat.le_of_ble_eq_true rfl⟩ (m_X9_init (by omega) kU_s) dX6_init_30 (rfl : 30 + 3 = 33) rfl ⟨Nat.le_of_ble_eq_true rfl, Nat.le_of_ble_eq_true rfl⟩ ?_
  refine k_sast (f := (va_up (va_up (va_up (va_up (va_up (va_up (fun _ => none) (Int32.toNatClampNeg 0) (some 30)) (Int32.toNatClampNeg 1) (some 39)) (Int32.toNatClampNeg 2) (some 48)) (Int32.toNatClampNeg 3) (some 57)) (Int32.toNatClampNeg 4) (some 66)) (Int32.toNatClampNeg 5) (some 75))) dX6_init_33 (rfl : 33 + 1 = 34) (by omega) (Eq.trans (putB_n (by omega)) (Eq.trans (kU_n (by omega)) kU_s)) (vp_in_iff.mpr (by decide)) (by omega) (putB_i (t := 0) (by omega)) ?_
  refine k_iinc (i := 1) (v := 7) dX6_init_34 (rfl : 34 + 3 = 37) rfl (Nat.le_of_ble_eq_true rfl) (by decide) ?_
  refine k_ls (ls2 := [.ref 28, .int 7]) rfl ?_
  refine k_goto (tgt := 15) dX6_init_37 (by decide) ?_
  refine k_iload_n (i := 1) dX6_init_15 (rfl : 15 + 1 = 16) rfl rfl ?_
  refine k_bipush (v := 8) dX6_init_16 (rfl : 16 + 2 = 18) (by decide) ?_
  refine k_icmp_ge (tgt := 40) dX6_init_18 (rfl : 18 + 3 = 21) (by decide) (fun b9 => by exact absurd b9 (by decide)) (fun b9 => ?_)
  refine k_aload_n (i := 0) dX6_init_21 (rfl : 21 + 1 = 22) rfl rfl ?_
  refine k_get 6 0 fg_X6_11 dX6_init_22 (rfl : 22 + 3 = 25) (by omega) (Eq.trans (kU_n (by omega)) (Eq.trans (putB_n (by omega)) (Eq.trans (kU_n (by omega)) (Eq.trans (kU_n (by omega)) (Eq.trans (putB_n (by omega)) (Eq.trans (kU_n (by omega)) (Eq.trans (kU_n (by omega)) (Eq.trans (putB_n (by omega)) (Eq.trans (kU_n (by omega)) (Eq.trans (kU_n (by omega)) (Eq.trans (putB_n (by omega)) (Eq.trans (kU_n (by omega)) (Eq.trans (kU_n (by omega)) (Eq.trans (putB_n (by omega)) (Eq.trans (kU_n (by omega)) (Eq.trans (kU_n (by omega)) (Eq.trans (putB_n (by omega)) (Eq.trans (kU_n (by omega)) (Eq.trans (kU_n (by omega)) (Eq.trans (putB_n (by omega)) (Eq.trans (kU_n (by omega)) kU_s))))))))))))))))))))) (Nat.le_of_ble_eq_true rfl) rfl ?_
  refine k_iload_n (i := 1) dX6_init_25 (rfl : 25 + 1 = 26) rfl rfl ?_
  refine k_new nw_X6_9 dX6_init_26 (rfl : 26 + 3 = 29) (by omega) ⟨Nat.le_of_ble_eq_true rfl, Nat.le_of_ble_eq_true rfl⟩ ?_
  refine k_dup dX6_init_29 (rfl : 29 + 1 = 30) rfl ?_
  refine k_callINv0 cv_X6_17 ⟨Nat.le_of_ble_eq_true rfl, Nat.le_of_ble_eq_true rfl⟩ (m_X9_init (by omega) kU_s) dX6_init_30 (rfl : 30 + 3 = 33) rfl ⟨Nat.le_of_ble_eq_true rfl, Nat.le_of_ble_eq_true rfl⟩ ?_
  refine k_sast (f := (va_up (va_up (va_up (va_up (va_up (va_up (va_up (fun _ => none) (Int32.toNatClampNeg 0) (some 30)) (Int32.toNatClampNeg 1) (some 39)) (Int32.toNatClampNeg 2) (some 48)) (Int32.toNatClampNeg 3) (some 57)) (Int32.toNatClampNeg 4) (some 66)) (Int32.toNatClampNeg 5) (some 75)) (Int32.toNatClampNeg 6) (some 84))) dX6_init_33 (rfl : 33 + 1 = 34) (by omega) (Eq.trans (putB_n (by omega)) (Eq.trans (kU_n (by omega)) kU_s)) (vp_in_iff.mpr (by decide)) (by omega) (putB_i (t := 0) (by omega)) ?_
  refine k_iinc (i := 1) (v := 8) dX6_init_34 (rfl : 34 + 3 = 37) rfl (Nat.le_of_ble_eq_true rfl) (by decide) ?_
  refine k_ls (ls2 := [.ref 28, .int 8]) rfl ?_
  refine k_goto (tgt := 15) dX6_init_37 (by decide) ?_
  refine k_iload_n (i := 1) dX6_init_15 (rfl : 15 + 1 = 16) rfl rfl ?_
  refine k_bipush (v := 8) dX6_init_16 (rfl : 16 + 2 = 18) (by decide) ?_
  refine k_icmp_ge (tgt := 40) dX6_init_18 (rfl : 18 + 3 = 21) (by decide) (fun b9 => ?_) (fun b9 => by exact absurd (by decide) b9)
  refine k_vret rfl dX6_init_40 (Nat.le_of_ble_eq_true rfl) (Nat.le_of_ble_eq_true rfl) ?_
  exact kRt_rfl
theorem nw_X11_9 : kNw RX11 9 9 3 [.null, .null, .null] := ⟨RX9, TX9, tyX9, rfl, inX9, tyX9_ok, (gm 130 (by decide +kernel) (by decide +kernel)), (gm 131 (by decide +kernel) (by decide +kernel)), (gm 89 (by decide +kernel) (by decide +kernel)), fun j hj => match j, hj with | 0, _ => rfl | 1, _ => rfl | 2, _ => rfl, fun _ => rfl⟩
theorem nw_X11_22 : kNw RX11 22 6 3 [.null, .int 0, .int 0] := ⟨RX6, TX6, tyX6, rfl, inX6, tyX6_ok, (gm 260 (by decide +kernel) (by decide +kernel)), (gm 261 (by decide +kernel) (by decide +kernel)), (gm 93 (by decide +kernel) (by decide +kernel)), fun j hj => match j, hj with | 0, _ => rfl | 1, _ => rfl | 2, _ => rfl, fun _ => rfl⟩
theorem nw_X11_29 : kNw RX11 29 4 3 [.null, .int 0, .int 0] := ⟨RX4, TX4, tyX4, rfl, inX4, tyX4_ok, (gm 280 (by decide +kernel) (by decide +kernel)), (gm 281 (by decide +kernel) (by decide +kernel)), (gm 94 (by decide +kernel) (by decide +kernel)), fun j hj => match j, hj with | 0, _ => rfl | 1, _ => rfl | 2, _ => rfl, fun _ => rfl⟩
theorem nw_X11_36 : kNw RX11 36 5 4 [.null, .null, .null, .null] := ⟨RX5, TX5, tyX5, rfl, inX5, tyX5_ok, (gm 299 (by decide +kernel) (by decide +kernel)), (gm 300 (by decide +kernel) (by decide +kernel)), (gm 95 (by decide +kernel) (by decide +kernel)), fun j hj => match j, hj with | 0, _ => rfl | 1, _ => rfl | 2, _ => rfl | 3, _ => rfl, fun _ => rfl⟩
theorem nw_X11_43 : kNw RX11 43 2 6 [.null, .int 0, .int 0, .int 0, .null, .null] := ⟨RX2, TX2, tyX2, rfl, inX2, tyX2_ok, (gm 318 (by decide +kernel) (by decide +kernel)), (gm 319 (by decide +kernel) (by decide +kernel)), (gm 96 (by decide +kernel) (by decide +kernel)), fun j hj => match j, hj with | 0, _ => rfl | 1, _ => rfl | 2, _ => rfl | 3, _ => rfl | 4, _ => rfl | 5, _ => rfl, fun _ => rfl⟩
theorem nw_X11_50 : kNw RX11 50 8 2 [.null, .int 0] := ⟨RX8, TX8, tyX8, rfl, inX8, tyX8_ok, (gm 349 (by decide +kernel) (by decide +kernel)), (gm 350 (by decide +kernel) (by decide +kernel)), (gm 97 (by decide +kernel) (by decide +kernel)), fun j hj => match j, hj with | 0, _ => rfl | 1, _ => rfl, fun _ => rfl⟩
/-- the first state of the class -/
def x00 : kK := (fun _ => c00, fun k => if k = 11 then (-1) else if k = 12 then (-1) else 0, fun _ _ => 0, fun _ => none)
def hX11 (h : kH) : kH := (kU (kU (kU (kU (kU (kU (kU (kU (kU (kU (kU (kU (kU (kU (kU (kU (kU (kU (kU (kU (kU (kU (kU (kU (kU (kU (kU (kU (kU (kU (kU (kU (putB (kU (kU (putB (kU (kU (putB (kU (kU (putB (kU (kU (putB (kU (kU (putB (kU (kU (putB (kU (kU (putB (kU (kU (kU (kU (kU (putB (kU (kU (putB (kU (kU (putB (kU h 1 (kO 9 [.null, .null, .null])) 1 9 (kBl 1 c00)) 0 (kO 11 [.ref 1, .null, .null, .null, .null, .null, .null, .null, .null, .int 0, .int 0, .int 0, .int 0, .int 0])) 10 (kO 9 [.null, .null, .null])) 10 9 (kBl 10 c00)) 0 (kO 11 [.ref 1, .ref 10, .null, .null, .null, .null, .null, .null, .null, .int 0, .int 0, .int 0, .int 0, .int 0])) 19 (kO 9 [.null, .null, .null])) 19 9 (kBl 19 c00)) 0 (kO 11 [.ref 1, .ref 10, .ref 19, .null, .null, .null, .null, .null, .null, .int 0, .int 0, .int 0, .int 0, .int 0])) 28 (kO 6 [.null, .int 0, .int 0])) 29 (kRf 4 8 (fun _ => none))) 28 (kO 6 [.ref 29, .int 0, .int 0])) 30 (kO 9 [.null, .null, .null])) 30 9 (kBl 30 c00)) 29 (kRf 4 8 (va_up (fun _ => none) (Int32.toNatClampNeg 0) (some 30)))) 39 (kO 9 [.null, .null, .null])) 39 9 (kBl 39 c00)) 29 (kRf 4 8 (va_up (va_up (fun _ => none) (Int32.toNatClampNeg 0) (some 30)) (Int32.toNatClampNeg 1) (some 39)))) 48 (kO 9 [.null, .null, .null])) 48 9 (kBl 48 c00)) 29 (kRf 4 8 (va_up (va_up (va_up (fun _ => none) (Int32.toNatClampNeg 0) (some 30)) (Int32.toNatClampNeg 1) (some 39)) (Int32.toNatClampNeg 2) (some 48)))) 57 (kO 9 [.null, .null, .null])) 57 9 (kBl 57 c00)) 29 (kRf 4 8 (va_up (va_up (va_up (va_up (fun _ => none) (Int32.toNatClampNeg 0) (some 30)) (Int32.toNatClampNeg 1) (some 39)) (Int32.toNatClampNeg 2) (some 48)) (Int32.toNatClampNeg 3) (some 57)))) 66 (kO 9 [.null, .null, .null])) 66 9 (kBl 66 c00)) 29 (kRf 4 8 (va_up (va_up (va_up (va_up (va_up (fun _ => none) (Int32.toNatClampNeg 0) (some 30)) (Int32.toNatClampNeg 1) (some 39)) (Int32.toNatClampNeg 2) (some 48)) (Int32.toNatClampNeg 3) (some 57)) (Int32.toNatClampNeg 4) (some 66)))) 75 (kO 9 [.null, .null, .null])) 75 9 (kBl 75 c00)) 29 (kRf 4 8 (va_up (va_up (va_up (va_up (va_up (va_up (fun _ => none) (Int32.toNatClampNeg 0) (some 30)) (Int32.toNatClampNeg 1) (some 39)) (Int32.toNatClampNeg 2) (some 48)) (Int32.toNatClampNeg 3) (some 57)) (Int32.toNatClampNeg 4) (some 66)) (Int32.toNatClampNeg 5) (some 75)))) 84 (kO 9 [.null, .null, .null])) 84 9 (kBl 84 c00)) 29 (kRf 4 8 (va_up (va_up (va_up (va_up (va_up (va_up (va_up (fun _ => none) (Int32.toNatClampNeg 0) (some 30)) (Int32.toNatClampNeg 1) (some 39)) (Int32.toNatClampNeg 2) (some 48)) (Int32.toNatClampNeg 3) (some 57)) (Int32.toNatClampNeg 4) (some 66)) (Int32.toNatClampNeg 5) (some 75)) (Int32.toNatClampNeg 6) (some 84)))) 93 (kO 9 [.null, .null, .null])) 93 9 (kBl 93 c00)) 29 (kRf 4 8 (va_up (va_up (va_up (va_up (va_up (va_up (va_up (va_up (fun _ => none) (Int32.toNatClampNeg 0) (some 30)) (Int32.toNatClampNeg 1) (some 39)) (Int32.toNatClampNeg 2) (some 48)) (Int32.toNatClampNeg 3) (some 57)) (Int32.toNatClampNeg 4) (some 66)) (Int32.toNatClampNeg 5) (some 75)) (Int32.toNatClampNeg 6) (some 84)) (Int32.toNatClampNeg 7) (some 93)))) 0 (kO 11 [.ref 1, .ref 10, .ref 19, .ref 28, .null, .null, .null, .null, .null, .int 0, .int 0, .int 0, .int 0, .int 0])) 102 (kO 4 [.null, .int 0, .int 0])) 103 (kI 36 (fun _ => 0))) 102 (kO 4 [.ref 103, .int 0, .int 0])) 0 (kO 11 [.ref 1, .ref 10, .ref 19, .ref 28, .ref 102, .null, .null, .null, .null, .int 0, .int 0, .int 0, .int 0, .int 0])) 104 (kO 5 [.null, .null, .null, .null])) 105 (kI 8 (fun _ => 0))) 104 (kO 5 [.ref 105, .null, .null, .null])) 106 (kI 8 (fun _ => 0))) 104 (kO 5 [.ref 105, .ref 106, .null, .null])) 107 (kI 33 (fun _ => 0))) 104 (kO 5 [.ref 105, .ref 106, .ref 107, .null])) 108 (kI 33 (fun _ => 0))) 104 (kO 5 [.ref 105, .ref 106, .ref 107, .ref 108])) 0 (kO 11 [.ref 1, .ref 10, .ref 19, .ref 28, .ref 102, .ref 104, .null, .null, .null, .int 0, .int 0, .int 0, .int 0, .int 0])) 109 (kO 2 [.null, .int 0, .int 0, .int 0, .null, .null])) 110 (kCh 60 (fun _ => 0))) 109 (kO 2 [.ref 110, .int 0, .int 0, .int 0, .null, .null])) 111 (kRf 5 11 (fun _ => none))) 109 (kO 2 [.ref 110, .int 0, .int 0, .int 0, .ref 111, .null])) 112 (kI 33 (fun _ => 0))) 109 (kO 2 [.ref 110, .int 0, .int 0, .int 0, .ref 111, .ref 112])) 0 (kO 11 [.ref 1, .ref 10, .ref 19, .ref 28, .ref 102, .ref 104, .ref 109, .null, .null, .int 0, .int 0, .int 0, .int 0, .int 0])) 113 (kO 8 [.null, .int 0])) 114 (kCh 32 (fun _ => 0))) 113 (kO 8 [.ref 114, .int 0])) 0 (kO 11 [.ref 1, .ref 10, .ref 19, .ref 28, .ref 102, .ref 104, .ref 109, .ref 113, .null, .int 0, .int 0, .int 0, .int 0, .int 0])) 115 (kI 64 (fun _ => 0))) 0 (kO 11 [.ref 1, .ref 10, .ref 19, .ref 28, .ref 102, .ref 104, .ref 109, .ref 113, .ref 115, .int 0, .int 0, .int 0, .int 0, .int 0])) 0 (kO 11 [.ref 1, .ref 10, .ref 19, .ref 28, .ref 102, .ref 104, .ref 109, .ref 113, .ref 115, .int 0, .int 0, .int 0, .int (-1), .int 0])) 0 (kO 11 [.ref 1, .ref 10, .ref 19, .ref 28, .ref 102, .ref 104, .ref 109, .ref 113, .ref 115, .int 0, .int 0, .int 0, .int (-1), .int (-1)]))
theorem h29 {h : kH} : hX11 h 29 = kHc x00 29 := by
  show kRf 4 8 (va_up (va_up (va_up (va_up (va_up (va_up (va_up (va_up (fun _ => none) (Int32.toNatClampNeg 0) (some 30)) (Int32.toNatClampNeg 1) (some 39)) (Int32.toNatClampNeg 2) (some 48)) (Int32.toNatClampNeg 3) (some 57)) (Int32.toNatClampNeg 4) (some 66)) (Int32.toNatClampNeg 5) (some 75)) (Int32.toNatClampNeg 6) (some 84)) (Int32.toNatClampNeg 7) (some 93)) = kRf 4 8 (fun j => cond (Nat.blt j 8) (some (30 + 9 * j)) none)
  congr 5
  funext j
  by_cases hj : j < 8
  · match j, hj with
    | 0, _ => rfl
    | 1, _ => rfl
    | 2, _ => rfl
    | 3, _ => rfl
    | 4, _ => rfl
    | 5, _ => rfl
    | 6, _ => rfl
    | 7, _ => rfl
  · rw [blt_f (show 8 ≤ j by omega)]
    have un : ∀ (f : Nat → Option Nat) (k : Nat) (v : Option Nat), j ≠ k → va_up f k v j = f j := fun f k v h => if_neg h
    rw [un _ _ _ (by show j ≠ 7; omega), un _ _ _ (by show j ≠ 6; omega), un _ _ _ (by show j ≠ 5; omega), un _ _ _ (by show j ≠ 4; omega), un _ _ _ (by show j ≠ 3; omega), un _ _ _ (by show j ≠ 2; omega), un _ _ _ (by show j ≠ 1; omega), un _ _ _ (by show j ≠ 0; omega)]
    rfl
theorem hX11_is {h : kH} : ∀ i, i < 116 → hX11 h i = kHc x00 i := by
  intro i hi
  match i, hi with
  | 0, _ => rfl
  | 1, _ => rfl
  | 2, _ => rfl
  | 3, _ => rfl
  | 4, _ => rfl
  | 5, _ => rfl
  | 6, _ => rfl
  | 7, _ => rfl
  | 8, _ => rfl
  | 9, _ => rfl
  | 10, _ => rfl
  | 11, _ => rfl
  | 12, _ => rfl
  | 13, _ => rfl
  | 14, _ => rfl
  | 15, _ => rfl
  | 16, _ => rfl
  | 17, _ => rfl
  | 18, _ => rfl
  | 19, _ => rfl
  | 20, _ => rfl
  | 21, _ => rfl
  | 22, _ => rfl
  | 23, _ => rfl
  | 24, _ => rfl
  | 25, _ => rfl
  | 26, _ => rfl
  | 27, _ => rfl
  | 28, _ => rfl
  | 30, _ => rfl
  | 31, _ => rfl
  | 32, _ => rfl
  | 33, _ => rfl
  | 34, _ => rfl
  | 35, _ => rfl
  | 36, _ => rfl
  | 37, _ => rfl
  | 38, _ => rfl
  | 39, _ => rfl
  | 40, _ => rfl
  | 41, _ => rfl
  | 42, _ => rfl
  | 43, _ => rfl
  | 44, _ => rfl
  | 45, _ => rfl
  | 46, _ => rfl
  | 47, _ => rfl
  | 48, _ => rfl
  | 49, _ => rfl
  | 50, _ => rfl
  | 51, _ => rfl
  | 52, _ => rfl
  | 53, _ => rfl
  | 54, _ => rfl
  | 55, _ => rfl
  | 56, _ => rfl
  | 57, _ => rfl
  | 58, _ => rfl
  | 59, _ => rfl
  | 60, _ => rfl
  | 61, _ => rfl
  | 62, _ => rfl
  | 63, _ => rfl
  | 64, _ => rfl
  | 65, _ => rfl
  | 66, _ => rfl
  | 67, _ => rfl
  | 68, _ => rfl
  | 69, _ => rfl
  | 70, _ => rfl
  | 71, _ => rfl
  | 72, _ => rfl
  | 73, _ => rfl
  | 74, _ => rfl
  | 75, _ => rfl
  | 76, _ => rfl
  | 77, _ => rfl
  | 78, _ => rfl
  | 79, _ => rfl
  | 80, _ => rfl
  | 81, _ => rfl
  | 82, _ => rfl
  | 83, _ => rfl
  | 84, _ => rfl
  | 85, _ => rfl
  | 86, _ => rfl
  | 87, _ => rfl
  | 88, _ => rfl
  | 89, _ => rfl
  | 90, _ => rfl
  | 91, _ => rfl
  | 92, _ => rfl
  | 93, _ => rfl
  | 94, _ => rfl
  | 95, _ => rfl
  | 96, _ => rfl
  | 97, _ => rfl
  | 98, _ => rfl
  | 99, _ => rfl
  | 100, _ => rfl
  | 101, _ => rfl
  | 102, _ => rfl
  | 103, _ => rfl
  | 104, _ => rfl
  | 105, _ => rfl
  | 106, _ => rfl
  | 107, _ => rfl
  | 108, _ => rfl
  | 109, _ => rfl
  | 110, _ => rfl
  | 111, _ => rfl
  | 112, _ => rfl
  | 113, _ => rfl
  | 114, _ => rfl
  | 115, _ => rfl
  | 29, _ => exact h29
set_option maxRecDepth 100000 in
set_option maxHeartbeats 4000000 in
theorem m_X11_init {h : kH} (h0 : h 0 = kO 11 [.null, .null, .null, .null, .null, .null, .null, .null, .null, .int 0, .int 0, .int 0, .int 0, .int 0]) : kMet kX11_init true 115 1048 [.ref 0] h 1 (kRt none (hX11 h) 116) := by
  refine kMet.in (by decide) rfl rfl _ rfl ?_
  refine k_aload_n (i := 0) dX11_init_0 (rfl : 0 + 1 = 1) rfl rfl ?_
  refine k_oinit (gm 127 (by decide +kernel) (by decide +kernel)) (gm 128 (by decide +kernel) (by decide +kernel)) (gm 129 (by decide +kernel) (by decide +kernel)) dX11_init_1 (rfl : 1 + 3 = 4) (Nat.le_of_ble_eq_true rfl) (Nat.le_of_ble_eq_true rfl) ?_
  refine k_aload_n (i := 0) dX11_init_4 (rfl : 4 + 1 = 5) rfl rfl ?_
  refine k_new nw_X11_9 dX11_init_5 (rfl : 5 + 3 = 8) (by omega) ⟨Nat.le_of_ble_eq_true rfl, Nat.le_of_ble_eq_true rfl⟩ ?_
  refine k_dup dX11_init_8 (rfl : 8 + 1 = 9) rfl ?_
  refine k_callINv0 cv_X11_11 ⟨Nat.le_of_ble_eq_true rfl, Nat.le_of_ble_eq_true rfl⟩ (m_X9_init (by omega) kU_s) dX11_init_9 (rfl : 9 + 3 = 12) rfl ⟨Nat.le_of_ble_eq_true rfl, Nat.le_of_ble_eq_true rfl⟩ ?_
  refine k_putF 11 0 fp_X11_12 rfl dX11_init_12 (rfl : 12 + 3 = 15) (by omega) (Eq.trans (putB_n (by omega)) (Eq.trans (kU_n (by omega)) h0)) (Nat.le_of_ble_eq_true rfl) rfl rfl ?_
  refine k_aload_n (i := 0) dX11_init_15 (rfl : 15 + 1 = 16) rfl rfl ?_
  refine k_new nw_X11_9 dX11_init_16 (rfl : 16 + 3 = 19) (by omega) ⟨Nat.le_of_ble_eq_true rfl, Nat.le_of_ble_eq_true rfl⟩ ?_
  refine k_dup dX11_init_19 (rfl : 19 + 1 = 20) rfl ?_
  refine k_callINv0 cv_X11_11 ⟨Nat.le_of_ble_eq_true rfl, Nat.le_of_ble_eq_true rfl⟩ (m_X9_init (by omega) kU_s) dX11_init_20 (rfl : 20 + 3 = 23) rfl ⟨Nat.le_of_ble_eq_true rfl, Nat.le_of_ble_eq_true rfl⟩ ?_
  refine k_putF 11 1 fp_X11_16 rfl dX11_init_23 (rfl : 23 + 3 = 26) (by omega) (Eq.trans (putB_n (by omega)) (Eq.trans (kU_n (by omega)) kU_s)) (Nat.le_of_ble_eq_true rfl) rfl rfl ?_
  refine k_aload_n (i := 0) dX11_init_26 (rfl : 26 + 1 = 27) rfl rfl ?_
  refine k_new nw_X11_9 dX11_init_27 (rfl : 27 + 3 = 30) (by omega) ⟨Nat.le_of_ble_eq_true rfl, Nat.le_of_ble_eq_true rfl⟩ ?_
  refine k_dup dX11_init_30 (rfl : 30 + 1 = 31) rfl ?_
  refine k_callINv0 cv_X11_11 ⟨Nat.le_of_ble_eq_true rfl, Nat.le_of_ble_eq_true rfl⟩ (m_X9_init (by omega) kU_s) dX11_init_31 (rfl : 31 + 3 = 34) rfl ⟨Nat.le_of_ble_eq_true rfl, Nat.le_of_ble_eq_true rfl⟩ ?_
  refine k_putF 11 2 fp_X11_19 rfl dX11_init_34 (rfl : 34 + 3 = 37) (by omega) (Eq.trans (putB_n (by omega)) (Eq.trans (kU_n (by omega)) kU_s)) (Nat.le_of_ble_eq_true rfl) rfl rfl ?_
  refine k_aload_n (i := 0) dX11_init_37 (rfl : 37 + 1 = 38) rfl rfl ?_
  refine k_new nw_X11_22 dX11_init_38 (rfl : 38 + 3 = 41) (by omega) ⟨Nat.le_of_ble_eq_true rfl, Nat.le_of_ble_eq_true rfl⟩ ?_
  refine k_dup dX11_init_41 (rfl : 41 + 1 = 42) rfl ?_
  refine k_callIv0 cv_X11_24 ⟨Nat.le_of_ble_eq_true rfl, Nat.le_of_ble_eq_true rfl⟩ (m_X6_init kU_s) dX11_init_42 (rfl : 42 + 3 = 45) rfl ⟨Nat.le_of_ble_eq_true rfl, Nat.le_of_ble_eq_true rfl⟩ ?_
  refine k_putF 11 3 fp_X11_25 rfl dX11_init_45 (rfl : 45 + 3 = 48) (by omega) (Eq.trans (kU_n (by omega)) (Eq.trans (putB_n (by omega)) (Eq.trans (kU_n (by omega)) (Eq.trans (kU_n (by omega)) (Eq.trans (putB_n (by omega)) (Eq.trans (kU_n (by omega)) (Eq.trans (kU_n (by omega)) (Eq.trans (putB_n (by omega)) (Eq.trans (kU_n (by omega)) (Eq.trans (kU_n (by omega)) (Eq.trans (putB_n (by omega)) (Eq.trans (kU_n (by omega)) (Eq.trans (kU_n (by omega)) (Eq.trans (putB_n (by omega)) (Eq.trans (kU_n (by omega)) (Eq.trans (kU_n (by omega)) (Eq.trans (putB_n (by omega)) (Eq.trans (kU_n (by omega)) (Eq.trans (kU_n (by omega)) (Eq.trans (putB_n (by omega)) (Eq.trans (kU_n (by omega)) (Eq.trans (kU_n (by omega)) (Eq.trans (putB_n (by omega)) (Eq.trans (kU_n (by omega)) (Eq.trans (kU_n (by omega)) (Eq.trans (kU_n (by omega)) (Eq.trans (kU_n (by omega)) kU_s))))))))))))))))))))))))))) (Nat.le_of_ble_eq_true rfl) rfl rfl ?_
  refine k_aload_n (i := 0) dX11_init_48 (rfl : 48 + 1 = 49) rfl rfl ?_
  refine k_new nw_X11_29 dX11_init_49 (rfl : 49 + 3 = 52) (by omega) ⟨Nat.le_of_ble_eq_true rfl, Nat.le_of_ble_eq_true rfl⟩ ?_
  refine k_dup dX11_init_52 (rfl : 52 + 1 = 53) rfl ?_
  refine k_callINv0 cv_X11_31 ⟨Nat.le_of_ble_eq_true rfl, Nat.le_of_ble_eq_true rfl⟩ (m_X4_init (by omega) kU_s) dX11_init_53 (rfl : 53 + 3 = 56) rfl ⟨Nat.le_of_ble_eq_true rfl, Nat.le_of_ble_eq_true rfl⟩ ?_
  refine k_putF 11 4 fp_X11_32 rfl dX11_init_56 (rfl : 56 + 3 = 59) (by omega) (Eq.trans (kU_n (by omega)) (Eq.trans (kU_n (by omega)) (Eq.trans (kU_n (by omega)) kU_s))) (Nat.le_of_ble_eq_true rfl) rfl rfl ?_
  refine k_aload_n (i := 0) dX11_init_59 (rfl : 59 + 1 = 60) rfl rfl ?_
  refine k_new nw_X11_36 dX11_init_60 (rfl : 60 + 3 = 63) (by omega) ⟨Nat.le_of_ble_eq_true rfl, Nat.le_of_ble_eq_true rfl⟩ ?_
  refine k_dup dX11_init_63 (rfl : 63 + 1 = 64) rfl ?_
  refine k_callINv0 cv_X11_38 ⟨Nat.le_of_ble_eq_true rfl, Nat.le_of_ble_eq_true rfl⟩ (m_X5_init (by omega) kU_s) dX11_init_64 (rfl : 64 + 3 = 67) rfl ⟨Nat.le_of_ble_eq_true rfl, Nat.le_of_ble_eq_true rfl⟩ ?_
  refine k_putF 11 5 fp_X11_39 rfl dX11_init_67 (rfl : 67 + 3 = 70) (by omega) (Eq.trans (kU_n (by omega)) (Eq.trans (kU_n (by omega)) (Eq.trans (kU_n (by omega)) (Eq.trans (kU_n (by omega)) (Eq.trans (kU_n (by omega)) (Eq.trans (kU_n (by omega)) (Eq.trans (kU_n (by omega)) (Eq.trans (kU_n (by omega)) (Eq.trans (kU_n (by omega)) kU_s))))))))) (Nat.le_of_ble_eq_true rfl) rfl rfl ?_
  refine k_aload_n (i := 0) dX11_init_70 (rfl : 70 + 1 = 71) rfl rfl ?_
  refine k_new nw_X11_43 dX11_init_71 (rfl : 71 + 3 = 74) (by omega) ⟨Nat.le_of_ble_eq_true rfl, Nat.le_of_ble_eq_true rfl⟩ ?_
  refine k_dup dX11_init_74 (rfl : 74 + 1 = 75) rfl ?_
  refine k_callINv0 cv_X11_45 ⟨Nat.le_of_ble_eq_true rfl, Nat.le_of_ble_eq_true rfl⟩ (m_X2_init (by omega) kU_s) dX11_init_75 (rfl : 75 + 3 = 78) rfl ⟨Nat.le_of_ble_eq_true rfl, Nat.le_of_ble_eq_true rfl⟩ ?_
  refine k_putF 11 6 fp_X11_46 rfl dX11_init_78 (rfl : 78 + 3 = 81) (by omega) (Eq.trans (kU_n (by omega)) (Eq.trans (kU_n (by omega)) (Eq.trans (kU_n (by omega)) (Eq.trans (kU_n (by omega)) (Eq.trans (kU_n (by omega)) (Eq.trans (kU_n (by omega)) (Eq.trans (kU_n (by omega)) kU_s))))))) (Nat.le_of_ble_eq_true rfl) rfl rfl ?_
  refine k_aload_n (i := 0) dX11_init_81 (rfl : 81 + 1 = 82) rfl rfl ?_
  refine k_new nw_X11_50 dX11_init_82 (rfl : 82 + 3 = 85) (by omega) ⟨Nat.le_of_ble_eq_true rfl, Nat.le_of_ble_eq_true rfl⟩ ?_
  refine k_dup dX11_init_85 (rfl : 85 + 1 = 86) rfl ?_
  refine k_callINv0 cv_X11_52 ⟨Nat.le_of_ble_eq_true rfl, Nat.le_of_ble_eq_true rfl⟩ (m_X8_init (by omega) kU_s) dX11_init_86 (rfl : 86 + 3 = 89) rfl ⟨Nat.le_of_ble_eq_true rfl, Nat.le_of_ble_eq_true rfl⟩ ?_
  refine k_putF 11 7 fp_X11_53 rfl dX11_init_89 (rfl : 89 + 3 = 92) (by omega) (Eq.trans (kU_n (by omega)) (Eq.trans (kU_n (by omega)) (Eq.trans (kU_n (by omega)) kU_s))) (Nat.le_of_ble_eq_true rfl) rfl rfl ?_
  refine k_aload_n (i := 0) dX11_init_92 (rfl : 92 + 1 = 93) rfl rfl ?_
  refine k_bipush (v := 64) dX11_init_93 (rfl : 93 + 2 = 95) (by decide) ?_
  refine k_newa (t := 0) (n := 64) (N' := 64) (a0 := (64, .inl (fun _ => 0))) rfl rfl (fun C q => by cases q) (gm 170 (by decide +kernel) (by decide +kernel)) (fun _ => rfl) (fun _ => rfl) dX11_init_95 (rfl : 95 + 2 = 97) (by omega) (by decide) (by decide) (by decide) ⟨Nat.le_of_ble_eq_true rfl, Nat.le_of_ble_eq_true rfl⟩ ?_
  refine k_putF 11 8 fp_X11_57 rfl dX11_init_97 (rfl : 97 + 3 = 100) (by omega) (Eq.trans (kU_n (by omega)) kU_s) (Nat.le_of_ble_eq_true rfl) rfl rfl ?_
  refine k_aload_n (i := 0) dX11_init_100 (rfl : 100 + 1 = 101) rfl rfl ?_
  refine k_iconst (v := (-1)) dX11_init_101 (rfl : 101 + 1 = 102) (by decide) ?_
  refine k_put 11 12 fp_X11_61 dX11_init_102 (rfl : 102 + 3 = 105) (by omega) kU_s (Nat.le_of_ble_eq_true rfl) rfl rfl ?_
  refine k_aload_n (i := 0) dX11_init_105 (rfl : 105 + 1 = 106) rfl rfl ?_
  refine k_iconst (v := (-1)) dX11_init_106 (rfl : 106 + 1 = 107) (by decide) ?_
  refine k_put 11 13 fp_X11_65 dX11_init_107 (rfl : 107 + 3 = 110) (by omega) kU_s (Nat.le_of_ble_eq_true rfl) rfl rfl ?_
  refine k_vret rfl dX11_init_110 (Nat.le_of_ble_eq_true rfl) (Nat.le_of_ble_eq_true rfl) ?_
  exact kRt_rfl
