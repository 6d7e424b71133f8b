section KNA
variable {K : kM} {R : Room} {F : kFn} {pc pc' : Nat} {ls st : List Value} {h : kH} {N cs ss : Nat}
theorem k_newI {n9 : Int32} {N' : Nat} (hd : decode K.2.1 pc = .ok (.newarray .int, 2)) (hp : pc + 2 = pc') (hN : N < 500) (hn : ¬ n9 < 0) (hN' : n9.toNatClampNeg = N') (hb : N' * componentBytes .int ≤ 536870912) (hcs : cs + 1 ≤ R.cells ∧ ss + N' ≤ R.slots)
    (kk : kEv K R F true pc' ls (.ref N :: st) (kU h N (kI N' (fun _ => 0))) (N + 1) (cs + 1) (ss + N')) : kEv K R F true pc ls (.int n9 :: st) h N cs ss :=
  k_newa (at0 := .int) (ty := .int) (t := 0) (a0 := (N', .inl (fun _ => 0))) rfl rfl (fun C q => by cases q) (gm 170 (by decide +kernel) (by decide +kernel)) (fun cA => vp_cell_i cA N' _) (fun _ => rfl) hd hp hN hn hN' hb hcs kk
theorem k_newC {n9 : Int32} {N' : Nat} (hd : decode K.2.1 pc = .ok (.newarray .char, 2)) (hp : pc + 2 = pc') (hN : N < 500) (hn : ¬ n9 < 0) (hN' : n9.toNatClampNeg = N') (hb : N' * componentBytes .char ≤ 536870912) (hcs : cs + 1 ≤ R.cells ∧ ss + N' ≤ R.slots)
    (kk : kEv K R F true pc' ls (.ref N :: st) (kU h N (kCh N' (fun _ => 0))) (N + 1) (cs + 1) (ss + N')) : kEv K R F true pc ls (.int n9 :: st) h N cs ss :=
  k_newa (at0 := .char) (ty := .char) (t := 1) (a0 := (N', .inl (fun _ => 0))) rfl rfl (fun C q => by cases q) (gm 348 (by decide +kernel) (by decide +kernel)) (fun cA => vp_cell_i cA N' _) (fun _ => rfl) hd hp hN hn hN' hb hcs kk
end KNA
/-- n things from b on -/
def putB (h : kH) (b n : Nat) (f : Nat → kE) : kH := fun i => cond (Nat.ble b i && Nat.blt i (b + n)) (f (i - b)) (h i)
theorem putB_i {h : kH} {b n t : Nat} {f : Nat → kE} (ht : t < n) : putB h b n f (b + t) = f t := by
  unfold putB
  rw [show Nat.ble b (b + t) = true from Nat.ble_eq_true_of_le (by omega), blt_t (show b + t < b + n by omega)]
  show f (b + t - b) = f t
  rw [Nat.add_sub_cancel_left]
theorem putB_n {h : kH} {b n i : Nat} {f : Nat → kE} (hi : i < b ∨ b + n ≤ i) : putB h b n f i = h i := by
  unfold putB
  rcases hi with hi | hi
  · have e : Nat.ble b i = false := by
      cases h9 : Nat.ble b i with
      | false => rfl
      | true => exact absurd (Nat.le_of_ble_eq_true h9) (by omega)
    rw [e]
    rfl
  · rw [blt_f (show b + n ≤ i from hi)]
    cases Nat.ble b i <;> rfl
set_option maxRecDepth 100000 in
set_option maxHeartbeats 4000000 in
theorem m_X10_init {h : kH} {b : Nat} (hb : b < 400) (h0 : h b = kO 10 [.long 0, .int 0, .int 0, .int 0, .int 0, .null]) : kMet kX10_init true 1 8 [.ref b] h (b + 1) (kRt none (kU (kU h (b + 1) (kI 8 (fun _ => 0))) b (kO 10 [.long 0, .int 0, .int 0, .int 0, .int 0, .ref (b + 1)])) (b + 2)) := by
  refine kMet.in (by decide) rfl rfl _ rfl ?_
  refine k_aload_n (i := 0) dX10_init_0 (rfl : 0 + 1 = 1) rfl rfl ?_
  refine k_oinit (gm 141 (by decide +kernel) (by decide +kernel)) (gm 128 (by decide +kernel) (by decide +kernel)) (gm 129 (by decide +kernel) (by decide +kernel)) dX10_init_1 (rfl : 1 + 3 = 4) (Nat.le_of_ble_eq_true rfl) (Nat.le_of_ble_eq_true rfl) ?_
  refine k_aload_n (i := 0) dX10_init_4 (rfl : 4 + 1 = 5) rfl rfl ?_
  refine k_bipush (v := 8) dX10_init_5 (rfl : 5 + 2 = 7) (by decide) ?_
  refine k_newI (n9 := 8) (N' := 8) dX10_init_7 (rfl : 7 + 2 = 9) (by omega) (by decide) (by decide) (by decide) ⟨Nat.le_of_ble_eq_true rfl, Nat.le_of_ble_eq_true rfl⟩ ?_
  refine k_putF 10 5 fp_X10_9 rfl dX10_init_9 (rfl : 9 + 3 = 12) (by omega) (Eq.trans (kU_n (by omega)) h0) (Nat.le_of_ble_eq_true rfl) rfl rfl ?_
  refine k_vret rfl dX10_init_12 (Nat.le_of_ble_eq_true rfl) (Nat.le_of_ble_eq_true rfl) ?_
  exact kRt_rfl
set_option maxRecDepth 100000 in
set_option maxHeartbeats 4000000 in
theorem m_X3_init {h : kH} {b : Nat} (hb : b < 400) (h0 : h b = kO 3 [.int 0, .int 0, .int 0, .null, .null, .null]) : kMet kX3_init true 3 24 [.ref b] h (b + 1) (kRt none (kU (kU (kU (kU (kU (kU (kU h b (kO 3 [.int 0, .int (261888 : Int32), .int 0, .null, .null, .null])) (b + 1) (kI 8 (fun _ => 0))) b (kO 3 [.int 0, .int (261888 : Int32), .int 0, .ref (b + 1), .null, .null])) (b + 2) (kI 8 (fun _ => 0))) b (kO 3 [.int 0, .int (261888 : Int32), .int 0, .ref (b + 1), .ref (b + 2), .null])) (b + 3) (kI 8 (fun _ => 0))) b (kO 3 [.int 0, .int (261888 : Int32), .int 0, .ref (b + 1), .ref (b + 2), .ref (b + 3)])) (b + 4)) := by
  refine kMet.in (by decide) rfl rfl _ rfl ?_
  refine k_aload_n (i := 0) dX3_init_0 (rfl : 0 + 1 = 1) rfl rfl ?_
  refine k_oinit (gm 176 (by decide +kernel) (by decide +kernel)) (gm 128 (by decide +kernel) (by decide +kernel)) (gm 129 (by decide +kernel) (by decide +kernel)) dX3_init_1 (rfl : 1 + 3 = 4) (Nat.le_of_ble_eq_true rfl) (Nat.le_of_ble_eq_true rfl) ?_
  refine k_aload_n (i := 0) dX3_init_4 (rfl : 4 + 1 = 5) rfl rfl ?_
  refine k_ldc dX3_init_5 (rfl : 5 + 2 = 7) kc_X3_9 ?_
  refine k_put 3 1 fp_X3_10 dX3_init_7 (rfl : 7 + 3 = 10) (by omega) h0 (Nat.le_of_ble_eq_true rfl) rfl rfl ?_
  refine k_aload_n (i := 0) dX3_init_10 (rfl : 10 + 1 = 11) rfl rfl ?_
  refine k_bipush (v := 8) dX3_init_11 (rfl : 11 + 2 = 13) (by decide) ?_
  refine k_newI (n9 := 8) (N' := 8) dX3_init_13 (rfl : 13 + 2 = 15) (by omega) (by decide) (by decide) (by decide) ⟨Nat.le_of_ble_eq_true rfl, Nat.le_of_ble_eq_true rfl⟩ ?_
  refine k_putF 3 3 fp_X3_16 rfl dX3_init_15 (rfl : 15 + 3 = 18) (by omega) (Eq.trans (kU_n (by omega)) kU_s) (Nat.le_of_ble_eq_true rfl) rfl rfl ?_
  refine k_aload_n (i := 0) dX3_init_18 (rfl : 18 + 1 = 19) rfl rfl ?_
  refine k_bipush (v := 8) dX3_init_19 (rfl : 19 + 2 = 21) (by decide) ?_
  refine k_newI (n9 := 8) (N' := 8) dX3_init_21 (rfl : 21 + 2 = 23) (by omega) (by decide) (by decide) (by decide) ⟨Nat.le_of_ble_eq_true rfl, Nat.le_of_ble_eq_true rfl⟩ ?_
  refine k_putF 3 4 fp_X3_20 rfl dX3_init_23 (rfl : 23 + 3 = 26) (by omega) (Eq.trans (kU_n (by omega)) kU_s) (Nat.le_of_ble_eq_true rfl) rfl rfl ?_
  refine k_aload_n (i := 0) dX3_init_26 (rfl : 26 + 1 = 27) rfl rfl ?_
  refine k_bipush (v := 8) dX3_init_27 (rfl : 27 + 2 = 29) (by decide) ?_
  refine k_newI (n9 := 8) (N' := 8) dX3_init_29 (rfl : 29 + 2 = 31) (by omega) (by decide) (by decide) (by decide) ⟨Nat.le_of_ble_eq_true rfl, Nat.le_of_ble_eq_true rfl⟩ ?_
  refine k_putF 3 5 fp_X3_23 rfl dX3_init_31 (rfl : 31 + 3 = 34) (by omega) (Eq.trans (kU_n (by omega)) kU_s) (Nat.le_of_ble_eq_true rfl) rfl rfl ?_
  refine k_vret rfl dX3_init_34 (Nat.le_of_ble_eq_true rfl) (Nat.le_of_ble_eq_true rfl) ?_
  exact kRt_rfl
set_option maxRecDepth 100000 in
set_option maxHeartbeats 4000000 in
theorem m_X7_init {h : kH} {b : Nat} (hb : b < 400) (h0 : h b = kO 7 [.int 0, .int 0, .int 0, .int 0, .int 0, .int 0, .int 0, .int 0, .null]) : kMet kX7_init true 1 8 [.ref b] h (b + 1) (kRt none (kU (kU (kU (kU h b (kO 7 [.int 10, .int 0, .int 0, .int 0, .int 0, .int 0, .int 0, .int 0, .null])) b (kO 7 [.int 10, .int 50, .int 0, .int 0, .int 0, .int 0, .int 0, .int 0, .null])) (b + 1) (kI 8 (fun _ => 0))) b (kO 7 [.int 10, .int 50, .int 0, .int 0, .int 0, .int 0, .int 0, .int 0, .ref (b + 1)])) (b + 2)) := by
  refine kMet.in (by decide) rfl rfl _ rfl ?_
  refine k_aload_n (i := 0) dX7_init_0 (rfl : 0 + 1 = 1) rfl rfl ?_
  refine k_oinit (gm 210 (by decide +kernel) (by decide +kernel)) (gm 128 (by decide +kernel) (by decide +kernel)) (gm 129 (by decide +kernel) (by decide +kernel)) dX7_init_1 (rfl : 1 + 3 = 4) (Nat.le_of_ble_eq_true rfl) (Nat.le_of_ble_eq_true rfl) ?_
  refine k_aload_n (i := 0) dX7_init_4 (rfl : 4 + 1 = 5) rfl rfl ?_
  refine k_bipush (v := 10) dX7_init_5 (rfl : 5 + 2 = 7) (by decide) ?_
  refine k_put 7 0 fp_X7_9 dX7_init_7 (rfl : 7 + 3 = 10) (by omega) h0 (Nat.le_of_ble_eq_true rfl) rfl rfl ?_
  refine k_aload_n (i := 0) dX7_init_10 (rfl : 10 + 1 = 11) rfl rfl ?_
  refine k_bipush (v := 50) dX7_init_11 (rfl : 11 + 2 = 13) (by decide) ?_
  refine k_put 7 1 fp_X7_15 dX7_init_13 (rfl : 13 + 3 = 16) (by omega) kU_s (Nat.le_of_ble_eq_true rfl) rfl rfl ?_
  refine k_aload_n (i := 0) dX7_init_16 (rfl : 16 + 1 = 17) rfl rfl ?_
  refine k_bipush (v := 8) dX7_init_17 (rfl : 17 + 2 = 19) (by decide) ?_
  refine k_newI (n9 := 8) (N' := 8) dX7_init_19 (rfl : 19 + 2 = 21) (by omega) (by decide) (by decide) (by decide) ⟨Nat.le_of_ble_eq_true rfl, Nat.le_of_ble_eq_true rfl⟩ ?_
  refine k_putF 7 8 fp_X7_18 rfl dX7_init_21 (rfl : 21 + 3 = 24) (by omega) (Eq.trans (kU_n (by omega)) kU_s) (Nat.le_of_ble_eq_true rfl) rfl rfl ?_
  refine k_vret rfl dX7_init_24 (Nat.le_of_ble_eq_true rfl) (Nat.le_of_ble_eq_true rfl) ?_
  exact kRt_rfl
/-- the first core -/
def c00 : kCo := (0, fun k => if k = 5 then 261888 else if k = 7 then 10 else if k = 8 then 50 else 0, fun _ _ => 0)
theorem nw_X9_7 : kNw RX9 7 10 6 [.long 0, .int 0, .int 0, .int 0, .int 0, .null] := ⟨RX10, TX10, tyX10, rfl, inX10, tyX10_ok, (gm 136 (by decide +kernel) (by decide +kernel)), (gm 137 (by decide +kernel) (by decide +kernel)), (gm 90 (by decide +kernel) (by decide +kernel)), fun j hj => match j, hj with | 0, _ => rfl | 1, _ => rfl | 2, _ => rfl | 3, _ => rfl | 4, _ => rfl | 5, _ => rfl, fun _ => rfl⟩
theorem nw_X9_16 : kNw RX9 16 3 6 [.int 0, .int 0, .int 0, .null, .null, .null] := ⟨RX3, TX3, tyX3, rfl, inX3, tyX3_ok, (gm 171 (by decide +kernel) (by decide +kernel)), (gm 172 (by decide +kernel) (by decide +kernel)), (gm 91 (by decide +kernel) (by decide +kernel)), fun j hj => match j, hj with | 0, _ => rfl | 1, _ => rfl | 2, _ => rfl | 3, _ => rfl | 4, _ => rfl | 5, _ => rfl, fun _ => rfl⟩
theorem nw_X9_23 : kNw RX9 23 7 9 [.int 0, .int 0, .int 0, .int 0, .int 0, .int 0, .int 0, .int 0, .null] := ⟨RX7, TX7, tyX7, rfl, inX7, tyX7_ok, (gm 205 (by decide +kernel) (by decide +kernel)), (gm 206 (by decide +kernel) (by decide +kernel)), (gm 92 (by decide +kernel) (by decide +kernel)), fun j hj => match j, hj with | 0, _ => rfl | 1, _ => rfl | 2, _ => rfl | 3, _ => rfl | 4, _ => rfl | 5, _ => rfl | 6, _ => rfl | 7, _ => rfl | 8, _ => rfl, fun _ => rfl⟩
set_option maxRecDepth 100000 in
set_option maxHeartbeats 4000000 in
theorem m_X9_init {h : kH} {b : Nat} (hb : b < 300) (h0 : h b = kO 9 [.null, .null, .null]) : kMet kX9_init true 8 61 [.ref b] h (b + 1) (kRt none (putB h b 9 (kBl b c00)) (b + 9)) := by
  refine kMet.in (by decide) rfl rfl _ rfl ?_
  refine k_aload_n (i := 0) dX9_init_0 (rfl : 0 + 1 = 1) rfl rfl ?_
  refine k_oinit (gm 135 (by decide +kernel) (by decide +kernel)) (gm 128 (by decide +kernel) (by decide +kernel)) (gm 129 (by decide +kernel) (by decide +kernel)) dX9_init_1 (rfl : 1 + 3 = 4) (Nat.le_of_ble_eq_true rfl) (Nat.le_of_ble_eq_true rfl) ?_
  refine k_aload_n (i := 0) dX9_init_4 (rfl : 4 + 1 = 5) rfl rfl ?_
  refine k_new nw_X9_7 dX9_init_5 (rfl : 5 + 3 = 8) (by omega) ⟨Nat.le_of_ble_eq_true rfl, Nat.le_of_ble_eq_true rfl⟩ ?_
  refine k_dup dX9_init_8 (rfl : 8 + 1 = 9) rfl ?_
  refine k_callINv0 cv_X9_9 ⟨Nat.le_of_ble_eq_true rfl, Nat.le_of_ble_eq_true rfl⟩ (m_X10_init (b := (b + 1)) (by omega) kU_s) dX9_init_9 (rfl : 9 + 3 = 12) rfl ⟨Nat.le_of_ble_eq_true rfl, Nat.le_of_ble_eq_true rfl⟩ ?_
  refine k_putF 9 0 fp_X9_10 rfl dX9_init_12 (rfl : 12 + 3 = 15) (by omega) (Eq.trans (kU_n (by omega)) (Eq.trans (kU_n (by omega)) (Eq.trans (kU_n (by omega)) h0))) (Nat.le_of_ble_eq_true rfl) rfl rfl ?_
  refine k_aload_n (i := 0) dX9_init_15 (rfl : 15 + 1 = 16) rfl rfl ?_
  refine k_new nw_X9_16 dX9_init_16 (rfl : 16 + 3 = 19) (by omega) ⟨Nat.le_of_ble_eq_true rfl, Nat.le_of_ble_eq_true rfl⟩ ?_
  refine k_dup dX9_init_19 (rfl : 19 + 1 = 20) rfl ?_
  refine k_callINv0 cv_X9_18 ⟨Nat.le_of_ble_eq_true rfl, Nat.le_of_ble_eq_true rfl⟩ (m_X3_init (b := (b + 3)) (by omega) kU_s) dX9_init_20 (rfl : 20 + 3 = 23) rfl ⟨Nat.le_of_ble_eq_true rfl, Nat.le_of_ble_eq_true rfl⟩ ?_
  refine k_putF 9 1 fp_X9_19 rfl dX9_init_23 (rfl : 23 + 3 = 26) (by omega) (Eq.trans (kU_n (by omega)) (Eq.trans (kU_n (by omega)) (Eq.trans (kU_n (by omega)) (Eq.trans (kU_n (by omega)) (Eq.trans (kU_n (by omega)) (Eq.trans (kU_n (by omega)) (Eq.trans (kU_n (by omega)) (Eq.trans (kU_n (by omega)) kU_s)))))))) (Nat.le_of_ble_eq_true rfl) rfl rfl ?_
  refine k_aload_n (i := 0) dX9_init_26 (rfl : 26 + 1 = 27) rfl rfl ?_
  refine k_new nw_X9_23 dX9_init_27 (rfl : 27 + 3 = 30) (by omega) ⟨Nat.le_of_ble_eq_true rfl, Nat.le_of_ble_eq_true rfl⟩ ?_
  refine k_dup dX9_init_30 (rfl : 30 + 1 = 31) rfl ?_
  refine k_callINv0 cv_X9_25 ⟨Nat.le_of_ble_eq_true rfl, Nat.le_of_ble_eq_true rfl⟩ (m_X7_init (b := (b + 7)) (by omega) kU_s) dX9_init_31 (rfl : 31 + 3 = 34) rfl ⟨Nat.le_of_ble_eq_true rfl, Nat.le_of_ble_eq_true rfl⟩ ?_
  refine k_putF 9 2 fp_X9_26 rfl dX9_init_34 (rfl : 34 + 3 = 37) (by omega) (Eq.trans (kU_n (by omega)) (Eq.trans (kU_n (by omega)) (Eq.trans (kU_n (by omega)) (Eq.trans (kU_n (by omega)) (Eq.trans (kU_n (by omega)) kU_s))))) (Nat.le_of_ble_eq_true rfl) rfl rfl ?_
  refine k_vret rfl dX9_init_37 (Nat.le_of_ble_eq_true rfl) (Nat.le_of_ble_eq_true rfl) ?_
  refine kRt_of rfl ?_
  funext i
  by_cases hi : b ≤ i ∧ i < b + 9
  · obtain ⟨t, rfl⟩ : ∃ t, i = b + t := ⟨i - b, by omega⟩
    have ht : t < 9 := by omega
    rw [putB_i ht]
    match t, ht with
    | 0, _ => exact (Eq.trans kU_s rfl)
    | 1, _ => exact (Eq.trans (kU_n (by omega)) (Eq.trans (kU_n (by omega)) (Eq.trans (kU_n (by omega)) (Eq.trans (kU_n (by omega)) (Eq.trans (kU_n (by omega)) (Eq.trans (kU_n (by omega)) (Eq.trans (kU_n (by omega)) (Eq.trans (kU_n (by omega)) (Eq.trans (kU_n (by omega)) (Eq.trans (kU_n (by omega)) (Eq.trans (kU_n (by omega)) (Eq.trans (kU_n (by omega)) (Eq.trans (kU_n (by omega)) (Eq.trans (kU_n (by omega)) (Eq.trans (kU_n (by omega)) (Eq.trans (kU_n (by omega)) (Eq.trans kU_s rfl)))))))))))))))))
    | 2, _ => exact (Eq.trans (kU_n (by omega)) (Eq.trans (kU_n (by omega)) (Eq.trans (kU_n (by omega)) (Eq.trans (kU_n (by omega)) (Eq.trans (kU_n (by omega)) (Eq.trans (kU_n (by omega)) (Eq.trans (kU_n (by omega)) (Eq.trans (kU_n (by omega)) (Eq.trans (kU_n (by omega)) (Eq.trans (kU_n (by omega)) (Eq.trans (kU_n (by omega)) (Eq.trans (kU_n (by omega)) (Eq.trans (kU_n (by omega)) (Eq.trans (kU_n (by omega)) (Eq.trans (kU_n (by omega)) (Eq.trans (kU_n (by omega)) (Eq.trans (kU_n (by omega)) (Eq.trans kU_s rfl))))))))))))))))))
    | 3, _ => exact (Eq.trans (kU_n (by omega)) (Eq.trans (kU_n (by omega)) (Eq.trans (kU_n (by omega)) (Eq.trans (kU_n (by omega)) (Eq.trans (kU_n (by omega)) (Eq.trans (kU_n (by omega)) (Eq.trans (kU_n (by omega)) (Eq.trans kU_s rfl))))))))
    | 4, _ => exact (Eq.trans (kU_n (by omega)) (Eq.trans (kU_n (by omega)) (Eq.trans (kU_n (by omega)) (Eq.trans (kU_n (by omega)) (Eq.trans (kU_n (by omega)) (Eq.trans (kU_n (by omega)) (Eq.trans (kU_n (by omega)) (Eq.trans (kU_n (by omega)) (Eq.trans (kU_n (by omega)) (Eq.trans (kU_n (by omega)) (Eq.trans (kU_n (by omega)) (Eq.trans (kU_n (by omega)) (Eq.trans kU_s rfl)))))))))))))
    | 5, _ => exact (Eq.trans (kU_n (by omega)) (Eq.trans (kU_n (by omega)) (Eq.trans (kU_n (by omega)) (Eq.trans (kU_n (by omega)) (Eq.trans (kU_n (by omega)) (Eq.trans (kU_n (by omega)) (Eq.trans (kU_n (by omega)) (Eq.trans (kU_n (by omega)) (Eq.trans (kU_n (by omega)) (Eq.trans (kU_n (by omega)) (Eq.trans kU_s rfl)))))))))))
    | 6, _ => exact (Eq.trans (kU_n (by omega)) (Eq.trans (kU_n (by omega)) (Eq.trans (kU_n (by omega)) (Eq.trans (kU_n (by omega)) (Eq.trans (kU_n (by omega)) (Eq.trans (kU_n (by omega)) (Eq.trans (kU_n (by omega)) (Eq.trans (kU_n (by omega)) (Eq.trans kU_s rfl)))))))))
    | 7, _ => exact (Eq.trans (kU_n (by omega)) (Eq.trans kU_s rfl))
    | 8, _ => exact (Eq.trans (kU_n (by omega)) (Eq.trans (kU_n (by omega)) (Eq.trans kU_s rfl)))
  · exact (Eq.trans (kU_n (by omega)) (Eq.trans (kU_n (by omega)) (Eq.trans (kU_n (by omega)) (Eq.trans (kU_n (by omega)) (Eq.trans (kU_n (by omega)) (Eq.trans (kU_n (by omega)) (Eq.trans (kU_n (by omega)) (Eq.trans (kU_n (by omega)) (Eq.trans (kU_n (by omega)) (Eq.trans (kU_n (by omega)) (Eq.trans (kU_n (by omega)) (Eq.trans (kU_n (by omega)) (Eq.trans (kU_n (by omega)) (Eq.trans (kU_n (by omega)) (Eq.trans (kU_n (by omega)) (Eq.trans (kU_n (by omega)) (Eq.trans (kU_n (by omega)) (Eq.trans (kU_n (by omega)) (Eq.trans (kU_n (by omega)) (Eq.symm (putB_n (by omega))))))))))))))))))))))
set_option maxRecDepth 100000 in
set_option maxHeartbeats 4000000 in
theorem m_X4_init {h : kH} {b : Nat} (hb : b < 400) (h0 : h b = kO 4 [.null, .int 0, .int 0]) : kMet kX4_init true 1 36 [.ref b] h (b + 1) (kRt none (kU (kU h (b + 1) (kI 36 (fun _ => 0))) b (kO 4 [.ref (b + 1), .int 0, .int 0])) (b + 2)) := by
  refine kMet.in (by decide) rfl rfl _ rfl ?_
  refine k_aload_n (i := 0) dX4_init_0 (rfl : 0 + 1 = 1) rfl rfl ?_
  refine k_oinit (gm 285 (by decide +kernel) (by decide +kernel)) (gm 128 (by decide +kernel) (by decide +kernel)) (gm 129 (by decide +kernel) (by decide +kernel)) dX4_init_1 (rfl : 1 + 3 = 4) (Nat.le_of_ble_eq_true rfl) (Nat.le_of_ble_eq_true rfl) ?_
  refine k_aload_n (i := 0) dX4_init_4 (rfl : 4 + 1 = 5) rfl rfl ?_
  refine k_bipush (v := 36) dX4_init_5 (rfl : 5 + 2 = 7) (by decide) ?_
  refine k_newI (n9 := 36) (N' := 36) dX4_init_7 (rfl : 7 + 2 = 9) (by omega) (by decide) (by decide) (by decide) ⟨Nat.le_of_ble_eq_true rfl, Nat.le_of_ble_eq_true rfl⟩ ?_
  refine k_putF 4 0 fp_X4_9 rfl dX4_init_9 (rfl : 9 + 3 = 12) (by omega) (Eq.trans (kU_n (by omega)) h0) (Nat.le_of_ble_eq_true rfl) rfl rfl ?_
  refine k_vret rfl dX4_init_12 (Nat.le_of_ble_eq_true rfl) (Nat.le_of_ble_eq_true rfl) ?_
  exact kRt_rfl
set_option maxRecDepth 100000 in
set_option maxHeartbeats 4000000 in
theorem m_X5_init {h : kH} {b : Nat} (hb : b < 400) (h0 : h b = kO 5 [.null, .null, .null, .null]) : kMet kX5_init true 4 82 [.ref b] h (b + 1) (kRt none (kU (kU (kU (kU (kU (kU (kU (kU h (b + 1) (kI 8 (fun _ => 0))) b (kO 5 [.ref (b + 1), .null, .null, .null])) (b + 2) (kI 8 (fun _ => 0))) b (kO 5 [.ref (b + 1), .ref (b + 2), .null, .null])) (b + 3) (kI 33 (fun _ => 0))) b (kO 5 [.ref (b + 1), .ref (b + 2), .ref (b + 3), .null])) (b + 4) (kI 33 (fun _ => 0))) b (kO 5 [.ref (b + 1), .ref (b + 2), .ref (b + 3), .ref (b + 4)])) (b + 5)) := by
  refine kMet.in (by decide) rfl rfl _ rfl ?_
  refine k_aload_n (i := 0) dX5_init_0 (rfl : 0 + 1 = 1) rfl rfl ?_
  refine k_oinit (gm 304 (by decide +kernel) (by decide +kernel)) (gm 128 (by decide +kernel) (by decide +kernel)) (gm 129 (by decide +kernel) (by decide +kernel)) dX5_init_1 (rfl : 1 + 3 = 4) (Nat.le_of_ble_eq_true rfl) (Nat.le_of_ble_eq_true rfl) ?_
  refine k_aload_n (i := 0) dX5_init_4 (rfl : 4 + 1 = 5) rfl rfl ?_
  refine k_bipush (v := 8) dX5_init_5 (rfl : 5 + 2 = 7) (by decide) ?_
  refine k_newI (n9 := 8) (N' := 8) dX5_init_7 (rfl : 7 + 2 = 9) (by omega) (by decide) (by decide) (by decide) ⟨Nat.le_of_ble_eq_true rfl, Nat.le_of_ble_eq_true rfl⟩ ?_
  refine k_putF 5 0 fp_X5_9 rfl dX5_init_9 (rfl : 9 + 3 = 12) (by omega) (Eq.trans (kU_n (by omega)) h0) (Nat.le_of_ble_eq_true rfl) rfl rfl ?_
  refine k_aload_n (i := 0) dX5_init_12 (rfl : 12 + 1 = 13) rfl rfl ?_
  refine k_bipush (v := 8) dX5_init_13 (rfl : 13 + 2 = 15) (by decide) ?_
  refine k_newI (n9 := 8) (N' := 8) dX5_init_15 (rfl : 15 + 2 = 17) (by omega) (by decide) (by decide) (by decide) ⟨Nat.le_of_ble_eq_true rfl, Nat.le_of_ble_eq_true rfl⟩ ?_
  refine k_putF 5 1 fp_X5_15 rfl dX5_init_17 (rfl : 17 + 3 = 20) (by omega) (Eq.trans (kU_n (by omega)) kU_s) (Nat.le_of_ble_eq_true rfl) rfl rfl ?_
  refine k_aload_n (i := 0) dX5_init_20 (rfl : 20 + 1 = 21) rfl rfl ?_
  refine k_bipush (v := 33) dX5_init_21 (rfl : 21 + 2 = 23) (by decide) ?_
  refine k_newI (n9 := 33) (N' := 33) dX5_init_23 (rfl : 23 + 2 = 25) (by omega) (by decide) (by decide) (by decide) ⟨Nat.le_of_ble_eq_true rfl, Nat.le_of_ble_eq_true rfl⟩ ?_
  refine k_putF 5 2 fp_X5_18 rfl dX5_init_25 (rfl : 25 + 3 = 28) (by omega) (Eq.trans (kU_n (by omega)) kU_s) (Nat.le_of_ble_eq_true rfl) rfl rfl ?_
  refine k_aload_n (i := 0) dX5_init_28 (rfl : 28 + 1 = 29) rfl rfl ?_
  refine k_bipush (v := 33) dX5_init_29 (rfl : 29 + 2 = 31) (by decide) ?_
  refine k_newI (n9 := 33) (N' := 33) dX5_init_31 (rfl : 31 + 2 = 33) (by omega) (by decide) (by decide) (by decide) ⟨Nat.le_of_ble_eq_true rfl, Nat.le_of_ble_eq_true rfl⟩ ?_
  refine k_putF 5 3 fp_X5_21 rfl dX5_init_33 (rfl : 33 + 3 = 36) (by omega) (Eq.trans (kU_n (by omega)) kU_s) (Nat.le_of_ble_eq_true rfl) rfl rfl ?_
  refine k_vret rfl dX5_init_36 (Nat.le_of_ble_eq_true rfl) (Nat.le_of_ble_eq_true rfl) ?_
  exact kRt_rfl
set_option maxRecDepth 100000 in
set_option maxHeartbeats 4000000 in
theorem m_X2_init {h : kH} {b : Nat} (hb : b < 400) (h0 : h b = kO 2 [.null, .int 0, .int 0, .int 0, .null, .null]) : kMet kX2_init true 3 104 [.ref b] h (b + 1) (kRt none (kU (kU (kU (kU (kU (kU h (b + 1) (kCh 60 (fun _ => 0))) b (kO 2 [.ref (b + 1), .int 0, .int 0, .int 0, .null, .null])) (b + 2) (kRf 5 11 (fun _ => none))) b (kO 2 [.ref (b + 1), .int 0, .int 0, .int 0, .ref (b + 2), .null])) (b + 3) (kI 33 (fun _ => 0))) b (kO 2 [.ref (b + 1), .int 0, .int 0, .int 0, .ref (b + 2), .ref (b + 3)])) (b + 4)) := by
  refine kMet.in (by decide) rfl rfl _ rfl ?_
  refine k_aload_n (i := 0) dX2_init_0 (rfl : 0 + 1 = 1) rfl rfl ?_
  refine k_oinit (gm 323 (by decide +kernel) (by decide +kernel)) (gm 128 (by decide +kernel) (by decide +kernel)) (gm 129 (by decide +kernel) (by decide +kernel)) dX2_init_1 (rfl : 1 + 3 = 4) (Nat.le_of_ble_eq_true rfl) (Nat.le_of_ble_eq_true rfl) ?_
  refine k_aload_n (i := 0) dX2_init_4 (rfl : 4 + 1 = 5) rfl rfl ?_
  refine k_bipush (v := 60) dX2_init_5 (rfl : 5 + 2 = 7) (by decide) ?_
  refine k_newC (n9 := 60) (N' := 60) dX2_init_7 (rfl : 7 + 2 = 9) (by omega) (by decide) (by decide) (by decide) ⟨Nat.le_of_ble_eq_true rfl, Nat.le_of_ble_eq_true rfl⟩ ?_
  refine k_putF 2 0 fp_X2_9 rfl dX2_init_9 (rfl : 9 + 3 = 12) (by omega) (Eq.trans (kU_n (by omega)) h0) (Nat.le_of_ble_eq_true rfl) rfl rfl ?_
  refine k_aload_n (i := 0) dX2_init_12 (rfl : 12 + 1 = 13) rfl rfl ?_
  refine k_bipush (v := 11) dX2_init_13 (rfl : 13 + 2 = 15) (by decide) ?_
  refine k_newq (t := 5) (n := 11) (N' := 11) rfl (gm 324 (by decide +kernel) (by decide +kernel)) (gm2 325 (by decide +kernel) (by decide +kernel)) dX2_init_15 (rfl : 15 + 3 = 18) (by omega) (by decide) (by decide) (by decide) ⟨Nat.le_of_ble_eq_true rfl, Nat.le_of_ble_eq_true rfl⟩ ?_
  refine k_putF 2 4 fp_X2_17 rfl dX2_init_18 (rfl : 18 + 3 = 21) (by omega) (Eq.trans (kU_n (by omega)) kU_s) (Nat.le_of_ble_eq_true rfl) rfl rfl ?_
  refine k_aload_n (i := 0) dX2_init_21 (rfl : 21 + 1 = 22) rfl rfl ?_
  refine k_bipush (v := 33) dX2_init_22 (rfl : 22 + 2 = 24) (by decide) ?_
  refine k_newI (n9 := 33) (N' := 33) dX2_init_24 (rfl : 24 + 2 = 26) (by omega) (by decide) (by decide) (by decide) ⟨Nat.le_of_ble_eq_true rfl, Nat.le_of_ble_eq_true rfl⟩ ?_
  refine k_putF 2 5 fp_X2_21 rfl dX2_init_26 (rfl : 26 + 3 = 29) (by omega) (Eq.trans (kU_n (by omega)) kU_s) (Nat.le_of_ble_eq_true rfl) rfl rfl ?_
  refine k_vret rfl dX2_init_29 (Nat.le_of_ble_eq_true rfl) (Nat.le_of_ble_eq_true rfl) ?_
  exact kRt_rfl
set_option maxRecDepth 100000 in
set_option maxHeartbeats 4000000 in
theorem m_X8_init {h : kH} {b : Nat} (hb : b < 400) (h0 : h b = kO 8 [.null, .int 0]) : kMet kX8_init true 1 32 [.ref b] h (b + 1) (kRt none (kU (kU h (b + 1) (kCh 32 (fun _ => 0))) b (kO 8 [.ref (b + 1), .int 0])) (b + 2)) := by
  refine kMet.in (by decide) rfl rfl _ rfl ?_
  refine k_aload_n (i := 0) dX8_init_0 (rfl : 0 + 1 = 1) rfl rfl ?_
  refine k_oinit (gm 354 (by decide +kernel) (by decide +kernel)) (gm 128 (by decide +kernel) (by decide +kernel)) (gm 129 (by decide +kernel) (by decide +kernel)) dX8_init_1 (rfl : 1 + 3 = 4) (Nat.le_of_ble_eq_true rfl) (Nat.le_of_ble_eq_true rfl) ?_
  refine k_aload_n (i := 0) dX8_init_4 (rfl : 4 + 1 = 5) rfl rfl ?_
  refine k_bipush (v := 32) dX8_init_5 (rfl : 5 + 2 = 7) (by decide) ?_
  refine k_newC (n9 := 32) (N' := 32) dX8_init_7 (rfl : 7 + 2 = 9) (by omega) (by decide) (by decide) (by decide) ⟨Nat.le_of_ble_eq_true rfl, Nat.le_of_ble_eq_true rfl⟩ ?_
  refine k_putF 8 0 fp_X8_7 rfl dX8_init_9 (rfl : 9 + 3 = 12) (by omega) (Eq.trans (kU_n (by omega)) h0) (Nat.le_of_ble_eq_true rfl) rfl rfl ?_
  refine k_vret rfl dX8_init_12 (Nat.le_of_ble_eq_true rfl) (Nat.le_of_ble_eq_true rfl) ?_
  exact kRt_rfl
theorem nw_X6_9 : kNw RX6 9 9 3 [.null, .null, .null] := ⟨RX9, TX9, tyX9, rfl, inX9, tyX9_ok, (gm 266 (by decide +kernel) (by decide +kernel)), (gm 131 (by decide +kernel) (by decide +kernel)), (gm 89 (by decide +kernel) (by decide +kernel)), fun j hj => match j, hj with | 0, _ => rfl | 1, _ => rfl | 2, _ => rfl, fun _ => rfl⟩
