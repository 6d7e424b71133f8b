/-- a reference or none -/
def kOp : Option Nat → Value
  | none => .null
  | some k => .ref (1010 + k)
/-- the text's length -/
def kTl (x : kK) : Prop := ∃ n : Nat, n ≤ 60 ∧ x.2.1 4 = nI n
/-- where the reading stands -/
def kAt (x : kK) : Prop := ∃ n a : Nat, n ≤ 60 ∧ a ≤ n ∧ x.2.1 4 = nI n ∧ x.2.1 5 = nI a
theorem kTl_in {x : kK} (hl : kTl x) (h : ¬ 60 ≤ x.2.1 4) : vp_in (x.2.1 4) 60 := by
  obtain ⟨m, hm, e⟩ := hl
  rw [e] at h ⊢
  refine vp_in_nI ?_ (by omega)
  rcases Nat.lt_or_ge m 60 with q | q
  · exact q
  · exact absurd (nI_le (a := 60) (b := m) q (by omega)) h
theorem kAt_E {x : kK} {f : Nat → Option Nat} (h : kAt x) : kAt (kkE x f) := h
theorem kAt_S6 {x : kK} {v : Int32} (h : kAt x) : kAt (kkS x 6 v) := h
theorem kAt_X6 {x : kK} {f : Nat → Int32} (h : kAt x) : kAt (kkR x 6 f) := h
theorem kAt_add {x : kK} {j : Nat} (ha : kAt x) (hj : j < 8) (h : ¬ x.2.1 4 ≤ x.2.1 5 + nI j) : vp_in (x.2.1 5 + nI j) 60 := by
  obtain ⟨n, a, hn, han, e1, e2⟩ := ha
  rw [e1, e2, nI_add] at h
  rw [e2, nI_add]
  refine vp_in_nI ?_ (by omega)
  rcases Nat.lt_or_ge (a + j) n with q | q
  · omega
  · exact absurd (nI_le (a := n) (b := a + j) q (by omega)) h
theorem kAt_in {x : kK} (ha : kAt x) (h : ¬ x.2.1 4 ≤ x.2.1 5) : vp_in (x.2.1 5) 60 := by
  obtain ⟨n, a, hn, han, e1, e2⟩ := ha
  rw [e1, e2] at h
  rw [e2]
  refine vp_in_nI ?_ (by omega)
  rcases Nat.lt_or_ge a n with q | q
  · omega
  · exact absurd (nI_le (a := n) (b := a) q (by omega)) h
theorem kAt_up {x : kK} (ha : kAt x) (h : ¬ x.2.1 4 ≤ x.2.1 5) : kAt (kkS x 5 (x.2.1 5 + 1)) := by
  obtain ⟨n, a, hn, han, e1, e2⟩ := ha
  rw [e1, e2] at h
  refine ⟨n, a + 1, hn, ?_, e1, ?_⟩
  · rcases Nat.lt_or_ge a n with q | q
    · omega
    · exact absurd (nI_le (a := n) (b := a) q (by omega)) h
  · show x.2.1 5 + 1 = nI (a + 1)
    rw [e2, nI_1]
def g_X2_put (x : kK) (a1 : Int32) : kK := if 60 ≤ (x.2.1 4) then x else (kkS (kkR x 5 (upd (x.2.2.1 5) (Int32.toNatClampNeg (x.2.1 4)) (vp_nar .char a1))) 4 ((x.2.1 4) + 1))
set_option maxRecDepth 100000 in
set_option maxHeartbeats 4000000 in
theorem m_X2_put {x : kK} {r : kH} {a1 : Int32} (hl : kTl x) : kMet kX2_put false 0 0 [.ref 109, .int a1] (kTp (kHc x) r) 130 (kRt (none) (kTp (kHc (g_X2_put x a1)) r) 130) := by
  refine kMet.in (by decide) rfl rfl _ rfl ?_
  refine k_aload_n (i := 0) dX2_put_0 (rfl : 0 + 1 = 1) rfl rfl ?_
  refine k_get 2 1 fg_X2_25 dX2_put_1 (rfl : 1 + 3 = 4) (Nat.le_of_ble_eq_true rfl) rfl rfl ?_
  refine k_bipush (v := 60) dX2_put_4 (rfl : 4 + 2 = 6) (by decide) ?_
  refine k_icmp_ge (tgt := 29) dX2_put_6 (rfl : 6 + 3 = 9) (by decide) (fun b6 => ?_) (fun b6 => ?_)
  · refine k_vret rfl dX2_put_29 (Nat.le_of_ble_eq_true rfl) (Nat.le_of_ble_eq_true rfl) ?_
    exact kRt_of rfl (congrArg (fun z => kTp (kHc z) r) (Eq.symm (if_pos (show 60 ≤ (x.2.1 4) from b6))))
  · refine k_aload_n (i := 0) dX2_put_9 (rfl : 9 + 1 = 10) rfl rfl ?_
    refine k_get 2 0 fg_X2_9 dX2_put_10 (rfl : 10 + 3 = 13) (Nat.le_of_ble_eq_true rfl) rfl rfl ?_
    refine k_aload_n (i := 0) dX2_put_13 (rfl : 13 + 1 = 14) rfl rfl ?_
    refine k_get 2 1 fg_X2_25 dX2_put_14 (rfl : 14 + 3 = 17) (Nat.le_of_ble_eq_true rfl) rfl rfl ?_
    refine k_iload_n (i := 1) dX2_put_17 (rfl : 17 + 1 = 18) rfl rfl ?_
    refine k_cast dX2_put_18 (rfl : 18 + 1 = 19) (Nat.le_of_ble_eq_true rfl) rfl (kTl_in hl b6) ?_
    refine kf_X5 (f := (upd (x.2.2.1 5) (Int32.toNatClampNeg (x.2.1 4)) (vp_nar .char a1))) rfl ?_
    refine k_aload_n (i := 0) dX2_put_19 (rfl : 19 + 1 = 20) rfl rfl ?_
    refine k_dup dX2_put_20 (rfl : 20 + 1 = 21) rfl ?_
    refine k_get 2 1 fg_X2_25 dX2_put_21 (rfl : 21 + 3 = 24) (Nat.le_of_ble_eq_true rfl) rfl rfl ?_
    refine k_iconst (v := 1) dX2_put_24 (rfl : 24 + 1 = 25) (by decide) ?_
    refine k_iadd dX2_put_25 (rfl : 25 + 1 = 26) ?_
    refine k_put 2 1 fp_X2_25 dX2_put_26 (rfl : 26 + 3 = 29) (Nat.le_of_ble_eq_true rfl) rfl (Nat.le_of_ble_eq_true rfl) rfl rfl ?_
    refine kf_C4 (v := ((x.2.1 4) + 1)) rfl ?_
    refine k_vret rfl dX2_put_29 (Nat.le_of_ble_eq_true rfl) (Nat.le_of_ble_eq_true rfl) ?_
    exact kRt_of rfl (congrArg (fun z => kTp (kHc z) r) (Eq.symm (if_neg (show ¬ (60 ≤ (x.2.1 4)) from b6))))
def f_X2_readSign (x : kK) (a1 : Int32) : Int32 := if (x.2.1 4) ≤ (x.2.1 5) then 0 else (if ((x.2.2.1 5) (Int32.toNatClampNeg (x.2.1 5))) = a1 then 1 else 0)
def g_X2_readSign (x : kK) (a1 : Int32) : kK := if (x.2.1 4) ≤ (x.2.1 5) then x else (if ((x.2.2.1 5) (Int32.toNatClampNeg (x.2.1 5))) = a1 then (kkS x 5 ((x.2.1 5) + 1)) else x)
set_option maxRecDepth 100000 in
set_option maxHeartbeats 4000000 in
theorem m_X2_readSign {x : kK} {r : kH} {a1 : Int32} (ha : kAt x) : kMet kX2_readSign false 0 0 [.ref 109, .int a1] (kTp (kHc x) r) 130 (kRt (some (.int (f_X2_readSign x a1))) (kTp (kHc (g_X2_readSign x a1)) r) 130) := by
  refine kMet.in (by decide) rfl rfl _ rfl ?_
  refine k_aload_n (i := 0) dX2_readSign_0 (rfl : 0 + 1 = 1) rfl rfl ?_
  refine k_get 2 2 fg_X2_32 dX2_readSign_1 (rfl : 1 + 3 = 4) (Nat.le_of_ble_eq_true rfl) rfl rfl ?_
  refine k_aload_n (i := 0) dX2_readSign_4 (rfl : 4 + 1 = 5) rfl rfl ?_
  refine k_get 2 1 fg_X2_25 dX2_readSign_5 (rfl : 5 + 3 = 8) (Nat.le_of_ble_eq_true rfl) rfl rfl ?_
  refine k_icmp_ge (tgt := 24) dX2_readSign_8 (rfl : 8 + 3 = 11) (by decide) (fun b8 => ?_) (fun b8 => ?_)
  · refine k_iconst (v := 0) dX2_readSign_24 (rfl : 24 + 1 = 25) (by decide) ?_
    refine k_iret rfl rfl dX2_readSign_25 (Nat.le_of_ble_eq_true rfl) (Nat.le_of_ble_eq_true rfl) ?_
    exact kRt_of (congrArg (fun z => some (Value.int z)) (Eq.symm (if_pos (show (x.2.1 4) ≤ (x.2.1 5) from b8)))) (congrArg (fun z => kTp (kHc z) r) (Eq.symm (if_pos (show (x.2.1 4) ≤ (x.2.1 5) from b8))))
  · refine k_aload_n (i := 0) dX2_readSign_11 (rfl : 11 + 1 = 12) rfl rfl ?_
    refine k_get 2 0 fg_X2_9 dX2_readSign_12 (rfl : 12 + 3 = 15) (Nat.le_of_ble_eq_true rfl) rfl rfl ?_
    refine k_aload_n (i := 0) dX2_readSign_15 (rfl : 15 + 1 = 16) rfl rfl ?_
    refine k_get 2 2 fg_X2_32 dX2_readSign_16 (rfl : 16 + 3 = 19) (Nat.le_of_ble_eq_true rfl) rfl rfl ?_
    refine k_cald dX2_readSign_19 (rfl : 19 + 1 = 20) (Nat.le_of_ble_eq_true rfl) rfl (kAt_in ha b8) ?_
    refine k_iload_n (i := 1) dX2_readSign_20 (rfl : 20 + 1 = 21) rfl rfl ?_
    refine k_icmp_eq (tgt := 26) dX2_readSign_21 (rfl : 21 + 3 = 24) (by decide) (fun b21 => ?_) (fun b21 => ?_)
    · refine k_aload_n (i := 0) dX2_readSign_26 (rfl : 26 + 1 = 27) rfl rfl ?_
      refine k_dup dX2_readSign_27 (rfl : 27 + 1 = 28) rfl ?_
      refine k_get 2 2 fg_X2_32 dX2_readSign_28 (rfl : 28 + 3 = 31) (Nat.le_of_ble_eq_true rfl) rfl rfl ?_
      refine k_iconst (v := 1) dX2_readSign_31 (rfl : 31 + 1 = 32) (by decide) ?_
      refine k_iadd dX2_readSign_32 (rfl : 32 + 1 = 33) ?_
      refine k_put 2 2 fp_X2_32 dX2_readSign_33 (rfl : 33 + 3 = 36) (Nat.le_of_ble_eq_true rfl) rfl (Nat.le_of_ble_eq_true rfl) rfl rfl ?_
      refine kf_C5 (v := ((x.2.1 5) + 1)) rfl ?_
      refine k_iconst (v := 1) dX2_readSign_36 (rfl : 36 + 1 = 37) (by decide) ?_
      refine k_iret rfl rfl dX2_readSign_37 (Nat.le_of_ble_eq_true rfl) (Nat.le_of_ble_eq_true rfl) ?_
      exact kRt_of (congrArg (fun z => some (Value.int z)) (Eq.symm (Eq.trans (if_neg (show ¬ ((x.2.1 4) ≤ (x.2.1 5)) from b8)) (if_pos (show ((x.2.2.1 5) (Int32.toNatClampNeg (x.2.1 5))) = a1 from b21))))) (congrArg (fun z => kTp (kHc z) r) (Eq.symm (Eq.trans (if_neg (show ¬ ((x.2.1 4) ≤ (x.2.1 5)) from b8)) (if_pos (show ((x.2.2.1 5) (Int32.toNatClampNeg (x.2.1 5))) = a1 from b21)))))
    · refine k_iconst (v := 0) dX2_readSign_24 (rfl : 24 + 1 = 25) (by decide) ?_
      refine k_iret rfl rfl dX2_readSign_25 (Nat.le_of_ble_eq_true rfl) (Nat.le_of_ble_eq_true rfl) ?_
      exact kRt_of (congrArg (fun z => some (Value.int z)) (Eq.symm (Eq.trans (if_neg (show ¬ ((x.2.1 4) ≤ (x.2.1 5)) from b8)) (if_neg (show ¬ (((x.2.2.1 5) (Int32.toNatClampNeg (x.2.1 5))) = a1) from b21))))) (congrArg (fun z => kTp (kHc z) r) (Eq.symm (Eq.trans (if_neg (show ¬ ((x.2.1 4) ≤ (x.2.1 5)) from b8)) (if_neg (show ¬ (((x.2.2.1 5) (Int32.toNatClampNeg (x.2.1 5))) = a1) from b21)))))
def f_X2_isAtDigit (x : kK)  : Int32 := if (x.2.1 4) ≤ (x.2.1 5) then 0 else (if ((x.2.2.1 5) (Int32.toNatClampNeg (x.2.1 5))) < 48 then 0 else (if 57 < ((x.2.2.1 5) (Int32.toNatClampNeg (x.2.1 5))) then 0 else 1))
set_option maxRecDepth 100000 in
set_option maxHeartbeats 4000000 in
theorem m_X2_isAtDigit {x : kK} {r : kH} (ha : kAt x) : kMet kX2_isAtDigit false 0 0 [.ref 109] (kTp (kHc x) r) 130 (kRt (some (.int (f_X2_isAtDigit x ))) (kTp (kHc x) r) 130) := by
  refine kMet.in (by decide) rfl rfl _ rfl ?_
  refine k_aload_n (i := 0) dX2_isAtDigit_0 (rfl : 0 + 1 = 1) rfl rfl ?_
  refine k_get 2 2 fg_X2_32 dX2_isAtDigit_1 (rfl : 1 + 3 = 4) (Nat.le_of_ble_eq_true rfl) rfl rfl ?_
  refine k_aload_n (i := 0) dX2_isAtDigit_4 (rfl : 4 + 1 = 5) rfl rfl ?_
  refine k_get 2 1 fg_X2_25 dX2_isAtDigit_5 (rfl : 5 + 3 = 8) (Nat.le_of_ble_eq_true rfl) rfl rfl ?_
  refine k_icmp_ge (tgt := 43) dX2_isAtDigit_8 (rfl : 8 + 3 = 11) (by decide) (fun b8 => ?_) (fun b8 => ?_)
  · refine k_iconst (v := 0) dX2_isAtDigit_43 (rfl : 43 + 1 = 44) (by decide) ?_
    refine k_iret rfl rfl dX2_isAtDigit_44 (Nat.le_of_ble_eq_true rfl) (Nat.le_of_ble_eq_true rfl) ?_
    exact kRt_of (congrArg (fun z => some (Value.int z)) (Eq.symm (if_pos (show (x.2.1 4) ≤ (x.2.1 5) from b8)))) rfl
  · refine k_aload_n (i := 0) dX2_isAtDigit_11 (rfl : 11 + 1 = 12) rfl rfl ?_
    refine k_get 2 0 fg_X2_9 dX2_isAtDigit_12 (rfl : 12 + 3 = 15) (Nat.le_of_ble_eq_true rfl) rfl rfl ?_
    refine k_aload_n (i := 0) dX2_isAtDigit_15 (rfl : 15 + 1 = 16) rfl rfl ?_
    refine k_get 2 2 fg_X2_32 dX2_isAtDigit_16 (rfl : 16 + 3 = 19) (Nat.le_of_ble_eq_true rfl) rfl rfl ?_
    refine k_cald dX2_isAtDigit_19 (rfl : 19 + 1 = 20) (Nat.le_of_ble_eq_true rfl) rfl (kAt_in ha b8) ?_
    refine k_bipush (v := 48) dX2_isAtDigit_20 (rfl : 20 + 2 = 22) (by decide) ?_
    refine k_icmp_lt (tgt := 43) dX2_isAtDigit_22 (rfl : 22 + 3 = 25) (by decide) (fun b22 => ?_) (fun b22 => ?_)
    · refine k_iconst (v := 0) dX2_isAtDigit_43 (rfl : 43 + 1 = 44) (by decide) ?_
      refine k_iret rfl rfl dX2_isAtDigit_44 (Nat.le_of_ble_eq_true rfl) (Nat.le_of_ble_eq_true rfl) ?_
      exact kRt_of (congrArg (fun z => some (Value.int z)) (Eq.symm (Eq.trans (if_neg (show ¬ ((x.2.1 4) ≤ (x.2.1 5)) from b8)) (if_pos (show ((x.2.2.1 5) (Int32.toNatClampNeg (x.2.1 5))) < 48 from b22))))) rfl
    · refine k_aload_n (i := 0) dX2_isAtDigit_25 (rfl : 25 + 1 = 26) rfl rfl ?_
      refine k_get 2 0 fg_X2_9 dX2_isAtDigit_26 (rfl : 26 + 3 = 29) (Nat.le_of_ble_eq_true rfl) rfl rfl ?_
      refine k_aload_n (i := 0) dX2_isAtDigit_29 (rfl : 29 + 1 = 30) rfl rfl ?_
      refine k_get 2 2 fg_X2_32 dX2_isAtDigit_30 (rfl : 30 + 3 = 33) (Nat.le_of_ble_eq_true rfl) rfl rfl ?_
      refine k_cald dX2_isAtDigit_33 (rfl : 33 + 1 = 34) (Nat.le_of_ble_eq_true rfl) rfl (kAt_in ha b8) ?_
      refine k_bipush (v := 57) dX2_isAtDigit_34 (rfl : 34 + 2 = 36) (by decide) ?_
      refine k_icmp_gt (tgt := 43) dX2_isAtDigit_36 (rfl : 36 + 3 = 39) (by decide) (fun b36 => ?_) (fun b36 => ?_)
      · refine k_iconst (v := 0) dX2_isAtDigit_43 (rfl : 43 + 1 = 44) (by decide) ?_
        refine k_iret rfl rfl dX2_isAtDigit_44 (Nat.le_of_ble_eq_true rfl) (Nat.le_of_ble_eq_true rfl) ?_
        exact kRt_of (congrArg (fun z => some (Value.int z)) (Eq.symm (Eq.trans (if_neg (show ¬ ((x.2.1 4) ≤ (x.2.1 5)) from b8)) (Eq.trans (if_neg (show ¬ (((x.2.2.1 5) (Int32.toNatClampNeg (x.2.1 5))) < 48) from b22)) (if_pos (show 57 < ((x.2.2.1 5) (Int32.toNatClampNeg (x.2.1 5))) from b36)))))) rfl
      · refine k_iconst (v := 1) dX2_isAtDigit_39 (rfl : 39 + 1 = 40) (by decide) ?_
        refine k_goto (tgt := 44) dX2_isAtDigit_40 (by decide) ?_
        refine k_iret rfl rfl dX2_isAtDigit_44 (Nat.le_of_ble_eq_true rfl) (Nat.le_of_ble_eq_true rfl) ?_
        exact kRt_of (congrArg (fun z => some (Value.int z)) (Eq.symm (Eq.trans (if_neg (show ¬ ((x.2.1 4) ≤ (x.2.1 5)) from b8)) (Eq.trans (if_neg (show ¬ (((x.2.2.1 5) (Int32.toNatClampNeg (x.2.1 5))) < 48) from b22)) (if_neg (show ¬ (57 < ((x.2.2.1 5) (Int32.toNatClampNeg (x.2.1 5)))) from b36)))))) rfl
def f_X2_readDigit (x : kK)  : Int32 := (((x.2.2.1 5) (Int32.toNatClampNeg (x.2.1 5))) - 48)
def g_X2_readDigit (x : kK)  : kK := (kkS x 5 ((x.2.1 5) + 1))
set_option maxRecDepth 100000 in
set_option maxHeartbeats 4000000 in
theorem m_X2_readDigit {x : kK} {r : kH} (ha : kAt x) (hl : ¬ x.2.1 4 ≤ x.2.1 5) : kMet kX2_readDigit false 0 0 [.ref 109] (kTp (kHc x) r) 130 (kRt (some (.int (f_X2_readDigit x ))) (kTp (kHc (g_X2_readDigit x )) r) 130) := by
  refine kMet.in (by decide) rfl rfl _ rfl ?_
  refine k_aload_n (i := 0) dX2_readDigit_0 (rfl : 0 + 1 = 1) rfl rfl ?_
  refine k_get 2 0 fg_X2_9 dX2_readDigit_1 (rfl : 1 + 3 = 4) (Nat.le_of_ble_eq_true rfl) rfl rfl ?_
  refine k_aload_n (i := 0) dX2_readDigit_4 (rfl : 4 + 1 = 5) rfl rfl ?_
  refine k_get 2 2 fg_X2_32 dX2_readDigit_5 (rfl : 5 + 3 = 8) (Nat.le_of_ble_eq_true rfl) rfl rfl ?_
  refine k_cald dX2_readDigit_8 (rfl : 8 + 1 = 9) (Nat.le_of_ble_eq_true rfl) rfl (kAt_in ha hl) ?_
  refine k_bipush (v := 48) dX2_readDigit_9 (rfl : 9 + 2 = 11) (by decide) ?_
  refine k_isub dX2_readDigit_11 (rfl : 11 + 1 = 12) ?_
  refine k_istore_n (i := 1) dX2_readDigit_12 (rfl : 12 + 1 = 13) rfl (Nat.le_of_ble_eq_true rfl) ?_
  refine k_ls (ls2 := [.ref 109, .int (((x.2.2.1 5) (Int32.toNatClampNeg (x.2.1 5))) - 48)]) rfl ?_
  refine k_aload_n (i := 0) dX2_readDigit_13 (rfl : 13 + 1 = 14) rfl rfl ?_
  refine k_dup dX2_readDigit_14 (rfl : 14 + 1 = 15) rfl ?_
  refine k_get 2 2 fg_X2_32 dX2_readDigit_15 (rfl : 15 + 3 = 18) (Nat.le_of_ble_eq_true rfl) rfl rfl ?_
  refine k_iconst (v := 1) dX2_readDigit_18 (rfl : 18 + 1 = 19) (by decide) ?_
  refine k_iadd dX2_readDigit_19 (rfl : 19 + 1 = 20) ?_
  refine k_put 2 2 fp_X2_32 dX2_readDigit_20 (rfl : 20 + 3 = 23) (Nat.le_of_ble_eq_true rfl) rfl (Nat.le_of_ble_eq_true rfl) rfl rfl ?_
  refine kf_C5 (v := ((x.2.1 5) + 1)) rfl ?_
  refine k_iload_n (i := 1) dX2_readDigit_23 (rfl : 23 + 1 = 24) rfl rfl ?_
  refine k_iret rfl rfl dX2_readDigit_24 (Nat.le_of_ble_eq_true rfl) (Nat.le_of_ble_eq_true rfl) ?_
  exact kRt_of rfl rfl
theorem rs_at {x : kK} {c : Int32} (ha : kAt x) : kAt (g_X2_readSign x c) := by
  unfold g_X2_readSign
  split
  · exact ha
  · split
    · exact kAt_up ha (by assumption)
    · exact ha
theorem rd_at {x : kK} (ha : kAt x) (h : ¬ x.2.1 4 ≤ x.2.1 5) : kAt (g_X2_readDigit x) := kAt_up ha h
theorem ad_lt {x : kK} (h : ¬ f_X2_isAtDigit x = 0) : ¬ x.2.1 4 ≤ x.2.1 5 := by
  intro h1
  unfold f_X2_isAtDigit at h
  rw [if_pos h1] at h
  exact h rfl
def mtL (x : kK) (L : List Int32) : Nat → Nat → Int32
  | 0, j => (nI j)
  | k + 1, j => if (x.2.1 4) ≤ ((x.2.1 5) + (nI j)) then (nI j) else (if ((x.2.2.1 5) (Int32.toNatClampNeg ((x.2.1 5) + (nI j)))) = (List.getD L (Int32.toNatClampNeg (nI j)) 0) then (mtL x L k (j + 1)) else (nI j))
set_option maxRecDepth 100000 in
set_option maxHeartbeats 4000000 in
theorem lmtL {x : kK} {r : kH} {L : List Int32} {i9 : Nat}  (hm : (i9, L) ∈ kTx) (hL : List.length L < 8) (ha : kAt x) : ∀ (k : Nat) (j : Nat), j + k = List.length L → kEv kX2_matchedCharacters (kRm kX2_matchedCharacters 0 0) (kFm false 0 0 ((kRt (some (.int (mtL x L k j))) (kTp (kHc x) r) 130))) false 2 [.ref 109, .ref i9, .int (nI j)] [] (kTp (kHc x) r) 130 0 0 := by
  intro k
  induction k with
  | zero =>
    intro j hj
    refine k_iload_n (i := 2) dX2_matchedCharacters_2 (rfl : 2 + 1 = 3) rfl rfl ?_
    refine k_aload_n (i := 1) dX2_matchedCharacters_3 (rfl : 3 + 1 = 4) rfl rfl ?_
    refine k_callVCd0 cv_X2_65 ⟨Nat.le_of_ble_eq_true rfl, Nat.le_of_ble_eq_true rfl⟩ (m_J0_length hm) dX2_matchedCharacters_4 (rfl : 4 + 3 = 7) (kTx_O hm) rfl ⟨Nat.le_of_ble_eq_true rfl, Nat.le_of_ble_eq_true rfl⟩ ?_
    refine k_icmp_ge (tgt := 48) dX2_matchedCharacters_7 (rfl : 7 + 3 = 10) (by decide) (fun b7 => ?_) (fun b7 => by exact absurd (nI_le (a := List.length L) (b := j) (by omega) (by omega)) b7)
    refine k_iload_n (i := 2) dX2_matchedCharacters_48 (rfl : 48 + 1 = 49) rfl rfl ?_
    refine k_iret rfl rfl dX2_matchedCharacters_49 (Nat.le_of_ble_eq_true rfl) (Nat.le_of_ble_eq_true rfl) ?_
    have e9 : (mtL x L 0 j) = (nI j) := by rw [mtL]
    exact kRt_of (congrArg (fun z => some (Value.int z)) (Eq.symm e9)) rfl
  | succ k ih =>
    intro j hj
    refine k_iload_n (i := 2) dX2_matchedCharacters_2 (rfl : 2 + 1 = 3) rfl rfl ?_
    refine k_aload_n (i := 1) dX2_matchedCharacters_3 (rfl : 3 + 1 = 4) rfl rfl ?_
    refine k_callVCd0 cv_X2_65 ⟨Nat.le_of_ble_eq_true rfl, Nat.le_of_ble_eq_true rfl⟩ (m_J0_length hm) dX2_matchedCharacters_4 (rfl : 4 + 3 = 7) (kTx_O hm) rfl ⟨Nat.le_of_ble_eq_true rfl, Nat.le_of_ble_eq_true rfl⟩ ?_
    refine k_icmp_ge (tgt := 48) dX2_matchedCharacters_7 (rfl : 7 + 3 = 10) (by decide) (fun b7 => by exact absurd b7 (nI_ge (a := j) (b := List.length L) (by omega) (by omega))) (fun b7 => ?_)
    refine k_aload_n (i := 0) dX2_matchedCharacters_10 (rfl : 10 + 1 = 11) rfl rfl ?_
    refine k_get 2 2 fg_X2_32 dX2_matchedCharacters_11 (rfl : 11 + 3 = 14) (Nat.le_of_ble_eq_true rfl) rfl rfl ?_
    refine k_iload_n (i := 2) dX2_matchedCharacters_14 (rfl : 14 + 1 = 15) rfl rfl ?_
    refine k_iadd dX2_matchedCharacters_15 (rfl : 15 + 1 = 16) ?_
    refine k_aload_n (i := 0) dX2_matchedCharacters_16 (rfl : 16 + 1 = 17) rfl rfl ?_
    refine k_get 2 1 fg_X2_25 dX2_matchedCharacters_17 (rfl : 17 + 3 = 20) (Nat.le_of_ble_eq_true rfl) rfl rfl ?_
    refine k_icmp_ge (tgt := 48) dX2_matchedCharacters_20 (rfl : 20 + 3 = 23) (by decide) (fun b20 => ?_) (fun b20 => ?_)
    · refine k_iload_n (i := 2) dX2_matchedCharacters_48 (rfl : 48 + 1 = 49) rfl rfl ?_
      refine k_iret rfl rfl dX2_matchedCharacters_49 (Nat.le_of_ble_eq_true rfl) (Nat.le_of_ble_eq_true rfl) ?_
      have e9 : (mtL x L (k + 1) j) = (nI j) := by rw [mtL, if_pos (show (x.2.1 4) ≤ ((x.2.1 5) + (nI j)) from b20)]
      exact kRt_of (congrArg (fun z => some (Value.int z)) (Eq.symm e9)) rfl
    · refine k_aload_n (i := 0) dX2_matchedCharacters_23 (rfl : 23 + 1 = 24) rfl rfl ?_
      refine k_get 2 0 fg_X2_9 dX2_matchedCharacters_24 (rfl : 24 + 3 = 27) (Nat.le_of_ble_eq_true rfl) rfl rfl ?_
      refine k_aload_n (i := 0) dX2_matchedCharacters_27 (rfl : 27 + 1 = 28) rfl rfl ?_
      refine k_get 2 2 fg_X2_32 dX2_matchedCharacters_28 (rfl : 28 + 3 = 31) (Nat.le_of_ble_eq_true rfl) rfl rfl ?_
      refine k_iload_n (i := 2) dX2_matchedCharacters_31 (rfl : 31 + 1 = 32) rfl rfl ?_
      refine k_iadd dX2_matchedCharacters_32 (rfl : 32 + 1 = 33) ?_
      refine k_cald dX2_matchedCharacters_33 (rfl : 33 + 1 = 34) (Nat.le_of_ble_eq_true rfl) rfl (kAt_add ha (by omega) b20) ?_
      refine k_aload_n (i := 1) dX2_matchedCharacters_34 (rfl : 34 + 1 = 35) rfl rfl ?_
      refine k_iload_n (i := 2) dX2_matchedCharacters_35 (rfl : 35 + 1 = 36) rfl rfl ?_
      refine k_callVCd1 cv_X2_76 ⟨Nat.le_of_ble_eq_true rfl, Nat.le_of_ble_eq_true rfl⟩ (m_J0_charAt hm (vp_in_nI (by omega) (by omega))) dX2_matchedCharacters_36 (rfl : 36 + 3 = 39) (kTx_O hm) rfl ⟨Nat.le_of_ble_eq_true rfl, Nat.le_of_ble_eq_true rfl⟩ ?_
      refine k_icmp_ne (tgt := 48) dX2_matchedCharacters_39 (rfl : 39 + 3 = 42) (by decide) (fun b39 => ?_) (fun b39 => ?_)
      · refine k_iload_n (i := 2) dX2_matchedCharacters_48 (rfl : 48 + 1 = 49) rfl rfl ?_
        refine k_iret rfl rfl dX2_matchedCharacters_49 (Nat.le_of_ble_eq_true rfl) (Nat.le_of_ble_eq_true rfl) ?_
        have e9 : (mtL x L (k + 1) j) = (nI j) := by rw [mtL, if_neg (show ¬ ((x.2.1 4) ≤ ((x.2.1 5) + (nI j))) from b20), if_neg (show ¬ (((x.2.2.1 5) (Int32.toNatClampNeg ((x.2.1 5) + (nI j)))) = (List.getD L (Int32.toNatClampNeg (nI j)) 0)) from b39)]
        exact kRt_of (congrArg (fun z => some (Value.int z)) (Eq.symm e9)) rfl
      · refine k_iinc (i := 2) (v := (nI (j + 1))) dX2_matchedCharacters_42 (rfl : 42 + 3 = 45) rfl (Nat.le_of_ble_eq_true rfl) (nI_1 _) ?_
        refine k_ls (ls2 := [.ref 109, .ref i9, .int (nI (j + 1))]) rfl ?_
        refine k_goto (tgt := 2) dX2_matchedCharacters_45 (by decide) ?_
        rw [mtL, if_neg (show ¬ ((x.2.1 4) ≤ ((x.2.1 5) + (nI j))) from b20), if_pos (show ((x.2.2.1 5) (Int32.toNatClampNeg ((x.2.1 5) + (nI j)))) = (List.getD L (Int32.toNatClampNeg (nI j)) 0) from b39)]
        exact ih (j + 1) (by omega)
set_option maxRecDepth 100000 in
set_option maxHeartbeats 4000000 in
theorem m_X2_matchedCharacters {x : kK} {r : kH} {i9 : Nat} {L : List Int32} (hm : (i9, L) ∈ kTx) (ha : kAt x) : kMet kX2_matchedCharacters false 0 0 [.ref 109, .ref i9] (kTp (kHc x) r) 130 (kRt (some (.int (mtL x L (List.length L) 0))) (kTp (kHc x) r) 130) := by
  refine kMet.in (by decide) rfl rfl _ rfl ?_
  refine k_iconst (v := 0) dX2_matchedCharacters_0 (rfl : 0 + 1 = 1) (by decide) ?_
  refine k_istore_n (i := 2) dX2_matchedCharacters_1 (rfl : 1 + 1 = 2) rfl (Nat.le_of_ble_eq_true rfl) ?_
  exact lmtL hm (kTx_len hm) ha (List.length L) 0 (by omega)
theorem mtL_ok {x : kK} {L : List Int32} (hL : List.length L < 8) (ha : kAt x) : ∀ (k j : Nat), j + k = List.length L → (∃ n a : Nat, n ≤ 60 ∧ a + j ≤ n ∧ x.2.1 4 = nI n ∧ x.2.1 5 = nI a) → ∃ m n a : Nat, mtL x L k j = nI m ∧ m ≤ List.length L ∧ n ≤ 60 ∧ a + m ≤ n ∧ x.2.1 4 = nI n ∧ x.2.1 5 = nI a := by
  intro k
  induction k with
  | zero =>
    intro j hj h
    obtain ⟨n, a, h1, h2, e1, e2⟩ := h
    exact ⟨j, n, a, rfl, by omega, h1, h2, e1, e2⟩
  | succ k ih =>
    intro j hj h
    obtain ⟨n, a, h1, h2, e1, e2⟩ := h
    rw [mtL]
    split
    · exact ⟨j, n, a, rfl, by omega, h1, h2, e1, e2⟩
    · rename_i hlt
      split
      · refine ih (j + 1) (by omega) ⟨n, a, h1, ?_, e1, e2⟩
        rw [e1, e2, nI_add] at hlt
        rcases Nat.lt_or_ge (a + j) n with q | q
        · omega
        · exact absurd (nI_le (a := n) (b := a + j) q (by omega)) hlt
      · exact ⟨j, n, a, rfl, by omega, h1, h2, e1, e2⟩
theorem mt_at {x : kK} {L : List Int32} (hL : List.length L < 8) (ha : kAt x) : kAt (kkS x 5 (x.2.1 5 + mtL x L (List.length L) 0)) := by
  obtain ⟨n, a, h1, h2, e1, e2⟩ := id ha
  obtain ⟨m, n2, a2, em, hm, q1, q2, q3, q4⟩ := mtL_ok hL ha (List.length L) 0 (by omega) ⟨n, a, h1, h2, e1, e2⟩
  refine ⟨n2, a2 + m, q1, by omega, q3, ?_⟩
  show x.2.1 5 + mtL x L (List.length L) 0 = nI (a2 + m)
  rw [em, q4, nI_add]
/-- how far a word has been matched -/
def kMt (x : kK) (g : Int32) : Prop := kAt (kkS x 5 (x.2.1 5 + g))
theorem mt_mx {x : kK} {g v : Int32} (h1 : kMt x g) (h2 : kMt x v) : kMt x (if g < v then v else g) := by
  split
  · exact h2
  · exact h1
theorem mt_z {x : kK} (ha : kAt x) : kMt x 0 := by
  obtain ⟨n, a, hn, han, e1, e2⟩ := ha
  refine ⟨n, a, hn, han, e1, ?_⟩
  show x.2.1 5 + 0 = nI a
  rw [Int32.add_zero, e2]
theorem kK_len {j : Nat} (h : j < 10) : List.length (kKeyB.getD j []) < 8 := kTx_len (kTx_k h)
def rkL : Nat → kK → Nat → Int32 → (kK × Option Nat) ⊕ (kK × Int32)
  | 0, x, j, g => .inr (x, g)
  | k + 1, x, j, g => if (mtL x (kKeyB.getD j []) (List.length (kKeyB.getD j [])) 0) = (nI (List.length (kKeyB.getD j []))) then (.inl ((kkS x 5 ((x.2.1 5) + (mtL x (kKeyB.getD j []) (List.length (kKeyB.getD j [])) 0))), (some (j)))) else (rkL k x (j + 1) (if g < (mtL x (kKeyB.getD j []) (List.length (kKeyB.getD j [])) 0) then (mtL x (kKeyB.getD j []) (List.length (kKeyB.getD j [])) 0) else g))
set_option maxRecDepth 100000 in
set_option maxHeartbeats 4000000 in
theorem lrkL {r : kH} {Q : kQ}  : ∀ (k : Nat) (x : kK) (j : Nat) (g : Int32) (t5 : Value) (t6 : Value), j + k = 10 → kAt x → kMt x g → (∀ y, (rkL k x j g) = .inl y → Q (.inl (some (kOp y.2))) (kTp (kHc y.1) r) 130) → (∀ y, (rkL k x j g) = .inr y → ∀ (z4 : Value) (z5 : Value) (z6 : Value), kEv kX2_readKeyword (kRm kX2_readKeyword 0 0) (kFm false 0 0 (Q)) false 75 [.ref 109, .int y.2, .ref 1003, .int 10, z4, z5, z6] [] (kTp (kHc y.1) r) 130 0 0) → kEv kX2_readKeyword (kRm kX2_readKeyword 0 0) (kFm false 0 0 (Q)) false 12 [.ref 109, .int g, .ref 1003, .int 10, .int (nI j), t5, t6] [] (kTp (kHc x) r) 130 0 0 := by
  intro k
  induction k with
  | zero =>
    intro x j g t5 t6 hj ha hg hr hx
    refine k_iload (i := 4) dX2_readKeyword_12 (rfl : 12 + 2 = 14) rfl ?_
    refine k_iload_n (i := 3) dX2_readKeyword_14 (rfl : 14 + 1 = 15) rfl rfl ?_
    refine k_icmp_ge (tgt := 75) dX2_readKeyword_15 (rfl : 15 + 3 = 18) (by decide) (fun b15 => ?_) (fun b15 => by exact absurd (nI_le (a := 10) (b := j) (by omega) (by omega)) b15)
    exact hx _ (by rw [rkL]) _ _ _
  | succ k ih =>
    intro x j g t5 t6 hj ha hg hr hx
    refine k_iload (i := 4) dX2_readKeyword_12 (rfl : 12 + 2 = 14) rfl ?_
    refine k_iload_n (i := 3) dX2_readKeyword_14 (rfl : 14 + 1 = 15) rfl rfl ?_
    refine k_icmp_ge (tgt := 75) dX2_readKeyword_15 (rfl : 15 + 3 = 18) (by decide) (fun b15 => by exact absurd b15 (nI_ge (a := j) (b := 10) (by omega) (by decide))) (fun b15 => ?_)
    refine k_aload_n (i := 2) dX2_readKeyword_18 (rfl : 18 + 1 = 19) rfl rfl ?_
    refine k_iload (i := 4) dX2_readKeyword_19 (rfl : 19 + 2 = 21) rfl ?_
    refine k_eald (k9 := j) (by omega) rfl dX2_readKeyword_21 (rfl : 21 + 1 = 22) ?_
    refine k_astore (i := 5) dX2_readKeyword_22 (rfl : 22 + 2 = 24) (Nat.le_of_ble_eq_true rfl) ?_
    refine k_ls (ls2 := [.ref 109, .int g, .ref 1003, .int 10, .int (nI j), .ref (1010 + j), t6]) rfl ?_
    refine k_aload_n (i := 0) dX2_readKeyword_24 (rfl : 24 + 1 = 25) rfl rfl ?_
    refine k_aload (i := 5) dX2_readKeyword_25 (rfl : 25 + 2 = 27) rfl ?_
    refine k_ekey (k9 := j) (by omega) (gm 1951 (by decide +kernel) (by decide +kernel)) dX2_readKeyword_27 (rfl : 27 + 3 = 30) ?_
    refine k_callVd1 cv_X2_61 ⟨Nat.le_of_ble_eq_true rfl, Nat.le_of_ble_eq_true rfl⟩ (m_X2_matchedCharacters (kTx_k (by omega)) ha) dX2_readKeyword_30 (rfl : 30 + 3 = 33) (Nat.le_of_ble_eq_true rfl) rfl rfl rfl ⟨Nat.le_of_ble_eq_true rfl, Nat.le_of_ble_eq_true rfl⟩ ?_
    refine k_istore (i := 6) dX2_readKeyword_33 (rfl : 33 + 2 = 35) (Nat.le_of_ble_eq_true rfl) ?_
    refine k_ls (ls2 := [.ref 109, .int g, .ref 1003, .int 10, .int (nI j), .ref (1010 + j), .int (mtL x (kKeyB.getD j []) (List.length (kKeyB.getD j [])) 0)]) rfl ?_
    refine k_iload (i := 6) dX2_readKeyword_35 (rfl : 35 + 2 = 37) rfl ?_
    refine k_aload (i := 5) dX2_readKeyword_37 (rfl : 37 + 2 = 39) rfl ?_
    refine k_ekey (k9 := j) (by omega) (gm 1951 (by decide +kernel) (by decide +kernel)) dX2_readKeyword_39 (rfl : 39 + 3 = 42) ?_
    refine k_callVCd0 cv_X2_65 ⟨Nat.le_of_ble_eq_true rfl, Nat.le_of_ble_eq_true rfl⟩ (m_J0_length (kTx_k (by omega))) dX2_readKeyword_42 (rfl : 42 + 3 = 45) (kTx_O (kTx_k (by omega))) rfl ⟨Nat.le_of_ble_eq_true rfl, Nat.le_of_ble_eq_true rfl⟩ ?_
    refine k_icmp_ne (tgt := 62) dX2_readKeyword_45 (rfl : 45 + 3 = 48) (by decide) (fun b45 => ?_) (fun b45 => ?_)
    · refine k_iload_n (i := 1) dX2_readKeyword_62 (rfl : 62 + 1 = 63) rfl rfl ?_
      refine k_iload (i := 6) dX2_readKeyword_63 (rfl : 63 + 2 = 65) rfl ?_
      refine k_mmax (gm 1279 (by decide +kernel) (by decide +kernel)) (gm 1280 (by decide +kernel) (by decide +kernel)) (gm 107 (by decide +kernel) (by decide +kernel)) (gm 1281 (by decide +kernel) (by decide +kernel)) dX2_readKeyword_65 (rfl : 65 + 3 = 68) (Nat.le_of_ble_eq_true rfl) (Nat.le_of_ble_eq_true rfl) (Nat.zero_le _) (Nat.zero_le _) ?_
      refine k_istore_n (i := 1) dX2_readKeyword_68 (rfl : 68 + 1 = 69) rfl (Nat.le_of_ble_eq_true rfl) ?_
      refine k_ls (ls2 := [.ref 109, .int (if g < (mtL x (kKeyB.getD j []) (List.length (kKeyB.getD j [])) 0) then (mtL x (kKeyB.getD j []) (List.length (kKeyB.getD j [])) 0) else g), .ref 1003, .int 10, .int (nI j), .ref (1010 + j), .int (mtL x (kKeyB.getD j []) (List.length (kKeyB.getD j [])) 0)]) rfl ?_
      refine k_iinc (i := 4) (v := (nI (j + 1))) dX2_readKeyword_69 (rfl : 69 + 3 = 72) rfl (Nat.le_of_ble_eq_true rfl) (nI_1 _) ?_
      refine k_ls (ls2 := [.ref 109, .int (if g < (mtL x (kKeyB.getD j []) (List.length (kKeyB.getD j [])) 0) then (mtL x (kKeyB.getD j []) (List.length (kKeyB.getD j [])) 0) else g), .ref 1003, .int 10, .int (nI (j + 1)), .ref (1010 + j), .int (mtL x (kKeyB.getD j []) (List.length (kKeyB.getD j [])) 0)]) rfl ?_
      refine k_goto (tgt := 12) dX2_readKeyword_72 (by decide) ?_
      exact ih x (j + 1) (if g < (mtL x (kKeyB.getD j []) (List.length (kKeyB.getD j [])) 0) then (mtL x (kKeyB.getD j []) (List.length (kKeyB.getD j [])) 0) else g) _ _ (by omega) ha (mt_mx hg (mt_at (kK_len (j := j) (by omega)) ha)) (fun y e => hr y (by rw [rkL, if_neg (show ¬ ((mtL x (kKeyB.getD j []) (List.length (kKeyB.getD j [])) 0) = (nI (List.length (kKeyB.getD j [])))) from b45)]; exact e)) (fun y e => hx y (by rw [rkL, if_neg (show ¬ ((mtL x (kKeyB.getD j []) (List.length (kKeyB.getD j [])) 0) = (nI (List.length (kKeyB.getD j [])))) from b45)]; exact e))
    · refine k_aload_n (i := 0) dX2_readKeyword_48 (rfl : 48 + 1 = 49) rfl rfl ?_
      refine k_dup dX2_readKeyword_49 (rfl : 49 + 1 = 50) rfl ?_
      refine k_get 2 2 fg_X2_32 dX2_readKeyword_50 (rfl : 50 + 3 = 53) (Nat.le_of_ble_eq_true rfl) rfl rfl ?_
      refine k_iload (i := 6) dX2_readKeyword_53 (rfl : 53 + 2 = 55) rfl ?_
      refine k_iadd dX2_readKeyword_55 (rfl : 55 + 1 = 56) ?_
      refine k_put 2 2 fp_X2_32 dX2_readKeyword_56 (rfl : 56 + 3 = 59) (Nat.le_of_ble_eq_true rfl) rfl (Nat.le_of_ble_eq_true rfl) rfl rfl ?_
      refine kf_C5 (v := ((x.2.1 5) + (mtL x (kKeyB.getD j []) (List.length (kKeyB.getD j [])) 0))) rfl ?_
      refine k_aload (i := 5) dX2_readKeyword_59 (rfl : 59 + 2 = 61) rfl ?_
      refine k_aret rfl (Or.inl ⟨_, rfl⟩) dX2_readKeyword_61 (Nat.le_of_ble_eq_true rfl) (Nat.le_of_ble_eq_true rfl) ?_
      exact hr ((kkS x 5 ((x.2.1 5) + (mtL x (kKeyB.getD j []) (List.length (kKeyB.getD j [])) 0))), (some (j))) (by rw [rkL, if_pos (show (mtL x (kKeyB.getD j []) (List.length (kKeyB.getD j [])) 0) = (nI (List.length (kKeyB.getD j []))) from b45)])
def f_X2_readKeyword (x : kK)  : Option Nat := Sum.elim (fun w12 => w12.2) (fun w12 => none) (rkL 10 x 0 0)
def g_X2_readKeyword (x : kK)  : kK := Sum.elim (fun w12 => w12.1) (fun w12 => (kkS w12.1 5 ((w12.1.2.1 5) + w12.2))) (rkL 10 x 0 0)
set_option maxRecDepth 100000 in
set_option maxHeartbeats 4000000 in
theorem m_X2_readKeyword {x : kK} {r : kH} (ha : kAt x) : kMet kX2_readKeyword false 0 0 [.ref 109] (kTp (kHc x) r) 130 (kRt (some (kOp (f_X2_readKeyword x ))) (kTp (kHc (g_X2_readKeyword x )) r) 130) := by
  refine kMet.in (by decide) rfl rfl _ rfl ?_
  refine k_iconst (v := 0) dX2_readKeyword_0 (rfl : 0 + 1 = 1) (by decide) ?_
  refine k_istore_n (i := 1) dX2_readKeyword_1 (rfl : 1 + 1 = 2) rfl (Nat.le_of_ble_eq_true rfl) ?_
  refine k_ls (ls2 := [.ref 109, .int 0, .retAddr 0, .retAddr 0, .retAddr 0, .retAddr 0, .retAddr 0]) rfl ?_
  refine k_getsN (Cn := "BoomerangCourt$Command") (n := "ALL") (d := "[LBoomerangCourt$Command;") (host := "BoomerangCourt") (id9 := 1003) (by decide) (gm2 1225 (by decide +kernel) (by decide +kernel)) dX2_readKeyword_2 (rfl : 2 + 3 = 5) ?_
  refine k_astore_n (i := 2) dX2_readKeyword_5 (rfl : 5 + 1 = 6) rfl (Nat.le_of_ble_eq_true rfl) ?_
  refine k_ls (ls2 := [.ref 109, .int 0, .ref 1003, .retAddr 0, .retAddr 0, .retAddr 0, .retAddr 0]) rfl ?_
  refine k_aload_n (i := 2) dX2_readKeyword_6 (rfl : 6 + 1 = 7) rfl rfl ?_
  refine k_alen1003 dX2_readKeyword_7 (rfl : 7 + 1 = 8) ?_
  refine k_istore_n (i := 3) dX2_readKeyword_8 (rfl : 8 + 1 = 9) rfl (Nat.le_of_ble_eq_true rfl) ?_
  refine k_ls (ls2 := [.ref 109, .int 0, .ref 1003, .int 10, .retAddr 0, .retAddr 0, .retAddr 0]) rfl ?_
  refine k_iconst (v := 0) dX2_readKeyword_9 (rfl : 9 + 1 = 10) (by decide) ?_
  refine k_istore (i := 4) dX2_readKeyword_10 (rfl : 10 + 2 = 12) (Nat.le_of_ble_eq_true rfl) ?_
  refine k_ls (ls2 := [.ref 109, .int 0, .ref 1003, .int 10, .int 0, .retAddr 0, .retAddr 0]) rfl ?_
  refine lrkL 10 x 0 0 _ _ (by omega) ha (mt_z ha) (fun w12 hw12 => ?_) (fun w12 hw12 z4 z5 z6 => ?_)
  · exact kRt_of (congrArg (fun z => some (kOp z)) (show (w12.2 : Option Nat) = _ from (Eq.symm (congrArg (Sum.elim _ _) hw12)))) (congrArg (fun z => kTp (kHc z) r) (Eq.symm (congrArg (Sum.elim _ _) hw12)))
  · refine k_aload_n (i := 0) dX2_readKeyword_75 (rfl : 75 + 1 = 76) rfl rfl ?_
    refine k_dup dX2_readKeyword_76 (rfl : 76 + 1 = 77) rfl ?_
    refine k_get 2 2 fg_X2_32 dX2_readKeyword_77 (rfl : 77 + 3 = 80) (Nat.le_of_ble_eq_true rfl) rfl rfl ?_
    refine k_iload_n (i := 1) dX2_readKeyword_80 (rfl : 80 + 1 = 81) rfl rfl ?_
    refine k_iadd dX2_readKeyword_81 (rfl : 81 + 1 = 82) ?_
    refine k_put 2 2 fp_X2_32 dX2_readKeyword_82 (rfl : 82 + 3 = 85) (Nat.le_of_ble_eq_true rfl) rfl (Nat.le_of_ble_eq_true rfl) rfl rfl ?_
    refine kf_C5 (v := ((w12.1.2.1 5) + w12.2)) rfl ?_
    refine k_null dX2_readKeyword_85 (rfl : 85 + 1 = 86) ?_
    refine k_aretN rfl (Or.inl ⟨_, rfl⟩) dX2_readKeyword_86 (Nat.le_of_ble_eq_true rfl) (Nat.le_of_ble_eq_true rfl) ?_
    exact kRt_of (congrArg (fun z => some (kOp z)) (show (none : Option Nat) = _ from (Eq.symm (congrArg (Sum.elim _ _) hw12)))) (congrArg (fun z => kTp (kHc z) r) (Eq.symm (congrArg (Sum.elim _ _) hw12)))
theorem rkL_ok {k : Nat} : ∀ {x : kK} {j : Nat} {g : Int32}, j + k = 10 → kAt x → kMt x g → Sum.elim (fun y : kK × Option Nat => kAt y.1 ∧ ∃ q, q < 10 ∧ y.2 = some q) (fun y : kK × Int32 => y.1 = x ∧ kMt x y.2) (rkL k x j g) := by
  induction k with
  | zero => intro x j g _ ha hg; exact ⟨rfl, hg⟩
  | succ k ih =>
    intro x j g hj ha hg
    rw [rkL]
    split
    · exact ⟨mt_at (kK_len (j := j) (by omega)) ha, j, by omega, rfl⟩
    · exact ih (by omega) ha (mt_mx hg (mt_at (kK_len (j := j) (by omega)) ha))
theorem rk_ok {x : kK} (ha : kAt x) : kAt (g_X2_readKeyword x) ∧ ∀ q, f_X2_readKeyword x = some q → q < 10 := by
  have h := rkL_ok (k := 10) (x := x) (j := 0) (g := 0) (by omega) ha (mt_z ha)
  unfold g_X2_readKeyword f_X2_readKeyword
  revert h
  generalize rkL 10 x 0 0 = z
  intro h
  cases z with
  | inl y =>
    obtain ⟨h1, q, hq, e⟩ := h
    refine ⟨h1, fun q2 h2 => ?_⟩
    have h3 : y.2 = some q2 := h2
    rw [e] at h3
    cases h3
    exact hq
  | inr y =>
    obtain ⟨h1, h2⟩ := h
    refine ⟨?_, fun q2 h2 => by cases h2⟩
    show kAt (kkS y.1 5 (y.1.2.1 5 + y.2))
    rw [h1]
    exact h2
/-- places of operands -/
def kW33 (w : Int32) : Prop := ∃ m : Nat, m ≤ 33 ∧ w = nI m
theorem w33_in {w : Int32} (h : kW33 w) (h1 : w < 33) : vp_in w 33 := by
  obtain ⟨m, hm, rfl⟩ := h
  refine vp_in_nI ?_ (by omega)
  rcases Nat.lt_or_ge m 33 with q | q
  · exact q
  · exact absurd h1 (nI_nlt (a := m) (b := 33) q (by omega))
theorem w33_up {w : Int32} (h : kW33 w) (h1 : w < 33) : kW33 (w + Int32.ofInt 1) := by
  obtain ⟨m, hm, rfl⟩ := h
  refine ⟨m + 1, ?_, nI_1 m⟩
  rcases Nat.lt_or_ge m 33 with q | q
  · omega
  · exact absurd h1 (nI_nlt (a := m) (b := 33) q (by omega))
def roL (L : List Int32) : Nat → kK → Nat → Int32 → kK × Int32
  | 0, x, j, q => (x, 1)
  | k + 1, x, j, q => if (List.getD L (Int32.toNatClampNeg (nI j)) 0) = 100 then (if (f_X2_isAtDigit x ) = 0 then (x, 0) else (if q < 33 then (if (List.getD L (Int32.toNatClampNeg (nI j)) 0) = 110 then (if (f_X2_isAtDigit (kkR (g_X2_readDigit x ) 6 (upd ((g_X2_readDigit x ).2.2.1 6) (Int32.toNatClampNeg q) (f_X2_readDigit x ))) ) = 0 then (roL L k (kkR (g_X2_readDigit x ) 6 (upd ((g_X2_readDigit x ).2.2.1 6) (Int32.toNatClampNeg q) (f_X2_readDigit x ))) (j + 1) (q + Int32.ofInt 1)) else (roL L k (kkR (g_X2_readDigit (kkR (g_X2_readDigit x ) 6 (upd ((g_X2_readDigit x ).2.2.1 6) (Int32.toNatClampNeg q) (f_X2_readDigit x ))) ) 6 (upd ((g_X2_readDigit (kkR (g_X2_readDigit x ) 6 (upd ((g_X2_readDigit x ).2.2.1 6) (Int32.toNatClampNeg q) (f_X2_readDigit x ))) ).2.2.1 6) (Int32.toNatClampNeg q) ((10 * ((upd ((g_X2_readDigit x ).2.2.1 6) (Int32.toNatClampNeg q) (f_X2_readDigit x )) (Int32.toNatClampNeg q))) + (f_X2_readDigit (kkR (g_X2_readDigit x ) 6 (upd ((g_X2_readDigit x ).2.2.1 6) (Int32.toNatClampNeg q) (f_X2_readDigit x ))) )))) (j + 1) (q + Int32.ofInt 1))) else (roL L k (kkR (g_X2_readDigit x ) 6 (upd ((g_X2_readDigit x ).2.2.1 6) (Int32.toNatClampNeg q) (f_X2_readDigit x ))) (j + 1) (q + Int32.ofInt 1))) else (x, 0))) else (if (List.getD L (Int32.toNatClampNeg (nI j)) 0) = 110 then (if (f_X2_isAtDigit x ) = 0 then (x, 0) else (if q < 33 then (if (List.getD L (Int32.toNatClampNeg (nI j)) 0) = 110 then (if (f_X2_isAtDigit (kkR (g_X2_readDigit x ) 6 (upd ((g_X2_readDigit x ).2.2.1 6) (Int32.toNatClampNeg q) (f_X2_readDigit x ))) ) = 0 then (roL L k (kkR (g_X2_readDigit x ) 6 (upd ((g_X2_readDigit x ).2.2.1 6) (Int32.toNatClampNeg q) (f_X2_readDigit x ))) (j + 1) (q + Int32.ofInt 1)) else (roL L k (kkR (g_X2_readDigit (kkR (g_X2_readDigit x ) 6 (upd ((g_X2_readDigit x ).2.2.1 6) (Int32.toNatClampNeg q) (f_X2_readDigit x ))) ) 6 (upd ((g_X2_readDigit (kkR (g_X2_readDigit x ) 6 (upd ((g_X2_readDigit x ).2.2.1 6) (Int32.toNatClampNeg q) (f_X2_readDigit x ))) ).2.2.1 6) (Int32.toNatClampNeg q) ((10 * ((upd ((g_X2_readDigit x ).2.2.1 6) (Int32.toNatClampNeg q) (f_X2_readDigit x )) (Int32.toNatClampNeg q))) + (f_X2_readDigit (kkR (g_X2_readDigit x ) 6 (upd ((g_X2_readDigit x ).2.2.1 6) (Int32.toNatClampNeg q) (f_X2_readDigit x ))) )))) (j + 1) (q + Int32.ofInt 1))) else (roL L k (kkR (g_X2_readDigit x ) 6 (upd ((g_X2_readDigit x ).2.2.1 6) (Int32.toNatClampNeg q) (f_X2_readDigit x ))) (j + 1) (q + Int32.ofInt 1))) else (x, 0))) else (if (f_X2_readSign x (List.getD L (Int32.toNatClampNeg (nI j)) 0)) = 0 then ((g_X2_readSign x (List.getD L (Int32.toNatClampNeg (nI j)) 0)), 0) else (roL L k (g_X2_readSign x (List.getD L (Int32.toNatClampNeg (nI j)) 0)) (j + 1) q)))
set_option maxRecDepth 100000 in
set_option maxHeartbeats 4000000 in
theorem lroL {r : kH} {L : List Int32} {i9 : Nat} {p0 : Int32}  (hm : (i9, L) ∈ kTx) (hL : List.length L < 8) : ∀ (k : Nat) (x : kK) (j : Nat) (q : Int32) (t5 : Value), j + k = List.length L → kAt x → kW33 q → kEv kX2_readOperands (kRm kX2_readOperands 0 0) (kFm false 0 0 ((kRt (some (.int (roL L k x j q).2)) (kTp (kHc (roL L k x j q).1) r) 130))) false 5 [.ref 109, .ref i9, .int p0, .int q, .int (nI j), t5] [] (kTp (kHc x) r) 130 0 0 := by
  intro k
  induction k with
  | zero =>
    intro x j q t5 hj ha hq
    refine k_iload (i := 4) dX2_readOperands_5 (rfl : 5 + 2 = 7) rfl ?_
    refine k_aload_n (i := 1) dX2_readOperands_7 (rfl : 7 + 1 = 8) rfl rfl ?_
    refine k_callVCd0 cv_X2_65 ⟨Nat.le_of_ble_eq_true rfl, Nat.le_of_ble_eq_true rfl⟩ (m_J0_length hm) dX2_readOperands_8 (rfl : 8 + 3 = 11) (kTx_O hm) rfl ⟨Nat.le_of_ble_eq_true rfl, Nat.le_of_ble_eq_true rfl⟩ ?_
    refine k_icmp_ge (tgt := 118) dX2_readOperands_11 (rfl : 11 + 3 = 14) (by decide) (fun b11 => ?_) (fun b11 => by exact absurd (nI_le (a := List.length L) (b := j) (by omega) (by omega)) b11)
    refine k_iconst (v := 1) dX2_readOperands_118 (rfl : 118 + 1 = 119) (by decide) ?_
    refine k_iret rfl rfl dX2_readOperands_119 (Nat.le_of_ble_eq_true rfl) (Nat.le_of_ble_eq_true rfl) ?_
    have e9 : (roL L 0 x j q) = (x, 1) := by rw [roL]
    exact kRt_of (congrArg (fun z => some (Value.int z)) (Eq.symm (congrArg Prod.snd e9))) (congrArg (fun z => kTp (kHc z) r) (Eq.symm (congrArg Prod.fst e9)))
  | succ k ih =>
    intro x j q t5 hj ha hq
    refine k_iload (i := 4) dX2_readOperands_5 (rfl : 5 + 2 = 7) rfl ?_
    refine k_aload_n (i := 1) dX2_readOperands_7 (rfl : 7 + 1 = 8) rfl rfl ?_
    refine k_callVCd0 cv_X2_65 ⟨Nat.le_of_ble_eq_true rfl, Nat.le_of_ble_eq_true rfl⟩ (m_J0_length hm) dX2_readOperands_8 (rfl : 8 + 3 = 11) (kTx_O hm) rfl ⟨Nat.le_of_ble_eq_true rfl, Nat.le_of_ble_eq_true rfl⟩ ?_
    refine k_icmp_ge (tgt := 118) dX2_readOperands_11 (rfl : 11 + 3 = 14) (by decide) (fun b11 => by exact absurd b11 (nI_ge (a := j) (b := List.length L) (by omega) (by omega))) (fun b11 => ?_)
    refine k_aload_n (i := 1) dX2_readOperands_14 (rfl : 14 + 1 = 15) rfl rfl ?_
    refine k_iload (i := 4) dX2_readOperands_15 (rfl : 15 + 2 = 17) rfl ?_
    refine k_callVCd1 cv_X2_76 ⟨Nat.le_of_ble_eq_true rfl, Nat.le_of_ble_eq_true rfl⟩ (m_J0_charAt hm (vp_in_nI (by omega) (by omega))) dX2_readOperands_17 (rfl : 17 + 3 = 20) (kTx_O hm) rfl ⟨Nat.le_of_ble_eq_true rfl, Nat.le_of_ble_eq_true rfl⟩ ?_
    refine k_istore (i := 5) dX2_readOperands_20 (rfl : 20 + 2 = 22) (Nat.le_of_ble_eq_true rfl) ?_
    refine k_ls (ls2 := [.ref 109, .ref i9, .int p0, .int q, .int (nI j), .int (List.getD L (Int32.toNatClampNeg (nI j)) 0)]) rfl ?_
    refine k_iload (i := 5) dX2_readOperands_22 (rfl : 22 + 2 = 24) rfl ?_
    refine k_bipush (v := 100) dX2_readOperands_24 (rfl : 24 + 2 = 26) (by decide) ?_
    refine k_icmp_eq (tgt := 47) dX2_readOperands_26 (rfl : 26 + 3 = 29) (by decide) (fun b26 => ?_) (fun b26 => ?_)
    · refine k_aload_n (i := 0) dX2_readOperands_47 (rfl : 47 + 1 = 48) rfl rfl ?_
      refine k_callVd0 cv_X2_80 ⟨Nat.le_of_ble_eq_true rfl, Nat.le_of_ble_eq_true rfl⟩ (m_X2_isAtDigit ha) dX2_readOperands_48 (rfl : 48 + 3 = 51) (Nat.le_of_ble_eq_true rfl) rfl rfl rfl ⟨Nat.le_of_ble_eq_true rfl, Nat.le_of_ble_eq_true rfl⟩ ?_
      refine k_if_eq (tgt := 63) dX2_readOperands_51 (rfl : 51 + 3 = 54) (by decide) (fun b51 => ?_) (fun b51 => ?_)
      · refine k_iconst (v := 0) dX2_readOperands_63 (rfl : 63 + 1 = 64) (by decide) ?_
        refine k_iret rfl rfl dX2_readOperands_64 (Nat.le_of_ble_eq_true rfl) (Nat.le_of_ble_eq_true rfl) ?_
        have e9 : (roL L (k + 1) x j q) = (x, 0) := by rw [roL, if_pos (show (List.getD L (Int32.toNatClampNeg (nI j)) 0) = 100 from b26), if_pos (show (f_X2_isAtDigit x ) = 0 from b51)]
        exact kRt_of (congrArg (fun z => some (Value.int z)) (Eq.symm (congrArg Prod.snd e9))) (congrArg (fun z => kTp (kHc z) r) (Eq.symm (congrArg Prod.fst e9)))
      · refine k_iload_n (i := 3) dX2_readOperands_54 (rfl : 54 + 1 = 55) rfl rfl ?_
        refine k_aload_n (i := 0) dX2_readOperands_55 (rfl : 55 + 1 = 56) rfl rfl ?_
        refine k_get 2 5 fg_X2_21 dX2_readOperands_56 (rfl : 56 + 3 = 59) (Nat.le_of_ble_eq_true rfl) rfl rfl ?_
        refine k_alen (ty := .int) (t := 0) (n := 33) (v := 33) rfl dX2_readOperands_59 (rfl : 59 + 1 = 60) (Nat.le_of_ble_eq_true rfl) rfl rfl (by decide) ?_
        refine k_icmp_lt (tgt := 65) dX2_readOperands_60 (rfl : 60 + 3 = 63) (by decide) (fun b60 => ?_) (fun b60 => ?_)
        · refine k_aload_n (i := 0) dX2_readOperands_65 (rfl : 65 + 1 = 66) rfl rfl ?_
          refine k_get 2 5 fg_X2_21 dX2_readOperands_66 (rfl : 66 + 3 = 69) (Nat.le_of_ble_eq_true rfl) rfl rfl ?_
          refine k_iload_n (i := 3) dX2_readOperands_69 (rfl : 69 + 1 = 70) rfl rfl ?_
          refine k_aload_n (i := 0) dX2_readOperands_70 (rfl : 70 + 1 = 71) rfl rfl ?_
          refine k_callVd0 cv_X2_84 ⟨Nat.le_of_ble_eq_true rfl, Nat.le_of_ble_eq_true rfl⟩ (m_X2_readDigit ha (ad_lt b51)) dX2_readOperands_71 (rfl : 71 + 3 = 74) (Nat.le_of_ble_eq_true rfl) rfl rfl rfl ⟨Nat.le_of_ble_eq_true rfl, Nat.le_of_ble_eq_true rfl⟩ ?_
          generalize hg1 : (g_X2_readDigit x ) = y1
          refine k_iast dX2_readOperands_74 (rfl : 74 + 1 = 75) (Nat.le_of_ble_eq_true rfl) rfl (w33_in hq b60) ?_
          refine kf_X6 (f := (upd (y1.2.2.1 6) (Int32.toNatClampNeg q) (f_X2_readDigit x ))) rfl ?_
          refine k_iload (i := 5) dX2_readOperands_75 (rfl : 75 + 2 = 77) rfl ?_
          refine k_bipush (v := 110) dX2_readOperands_77 (rfl : 77 + 2 = 79) (by decide) ?_
          refine k_icmp_ne (tgt := 109) dX2_readOperands_79 (rfl : 79 + 3 = 82) (by decide) (fun b79 => ?_) (fun b79 => ?_)
          · refine k_iinc (i := 3) dX2_readOperands_109 (rfl : 109 + 3 = 112) rfl (Nat.le_of_ble_eq_true rfl) rfl ?_
            refine k_ls (ls2 := [.ref 109, .ref i9, .int p0, .int (q + Int32.ofInt 1), .int (nI j), .int (List.getD L (Int32.toNatClampNeg (nI j)) 0)]) rfl ?_
            refine k_iinc (i := 4) (v := (nI (j + 1))) dX2_readOperands_112 (rfl : 112 + 3 = 115) rfl (Nat.le_of_ble_eq_true rfl) (nI_1 _) ?_
            refine k_ls (ls2 := [.ref 109, .ref i9, .int p0, .int (q + Int32.ofInt 1), .int (nI (j + 1)), .int (List.getD L (Int32.toNatClampNeg (nI j)) 0)]) rfl ?_
            refine k_goto (tgt := 5) dX2_readOperands_115 (by decide) ?_
            subst hg1
            rw [roL, if_pos (show (List.getD L (Int32.toNatClampNeg (nI j)) 0) = 100 from b26), if_neg (show ¬ ((f_X2_isAtDigit x ) = 0) from b51), if_pos (show q < 33 from b60), if_neg (show ¬ ((List.getD L (Int32.toNatClampNeg (nI j)) 0) = 110) from b79)]
            exact ih (kkR (g_X2_readDigit x ) 6 (upd ((g_X2_readDigit x ).2.2.1 6) (Int32.toNatClampNeg q) (f_X2_readDigit x ))) (j + 1) (q + Int32.ofInt 1) _ (by omega) (by first | exact rd_at (show kAt (kkR (g_X2_readDigit x) 6 _) from rd_at ha (ad_lt b51)) (ad_lt b86) | exact rd_at ha (ad_lt b51)) (w33_up hq b60)
          · refine k_aload_n (i := 0) dX2_readOperands_82 (rfl : 82 + 1 = 83) rfl rfl ?_
            refine k_callVd0 cv_X2_80 ⟨Nat.le_of_ble_eq_true rfl, Nat.le_of_ble_eq_true rfl⟩ (m_X2_isAtDigit (kAt_X6 (by rw [← hg1]; exact rd_at ha (ad_lt b51)))) dX2_readOperands_83 (rfl : 83 + 3 = 86) (Nat.le_of_ble_eq_true rfl) rfl rfl rfl ⟨Nat.le_of_ble_eq_true rfl, Nat.le_of_ble_eq_true rfl⟩ ?_
            refine k_if_eq (tgt := 109) dX2_readOperands_86 (rfl : 86 + 3 = 89) (by decide) (fun b86 => ?_) (fun b86 => ?_)
            · refine k_iinc (i := 3) dX2_readOperands_109 (rfl : 109 + 3 = 112) rfl (Nat.le_of_ble_eq_true rfl) rfl ?_
              refine k_ls (ls2 := [.ref 109, .ref i9, .int p0, .int (q + Int32.ofInt 1), .int (nI j), .int (List.getD L (Int32.toNatClampNeg (nI j)) 0)]) rfl ?_
              refine k_iinc (i := 4) (v := (nI (j + 1))) dX2_readOperands_112 (rfl : 112 + 3 = 115) rfl (Nat.le_of_ble_eq_true rfl) (nI_1 _) ?_
              refine k_ls (ls2 := [.ref 109, .ref i9, .int p0, .int (q + Int32.ofInt 1), .int (nI (j + 1)), .int (List.getD L (Int32.toNatClampNeg (nI j)) 0)]) rfl ?_
              refine k_goto (tgt := 5) dX2_readOperands_115 (by decide) ?_
              subst hg1
              rw [roL, if_pos (show (List.getD L (Int32.toNatClampNeg (nI j)) 0) = 100 from b26), if_neg (show ¬ ((f_X2_isAtDigit x ) = 0) from b51), if_pos (show q < 33 from b60), if_pos (show (List.getD L (Int32.toNatClampNeg (nI j)) 0) = 110 from b79), if_pos (show (f_X2_isAtDigit (kkR (g_X2_readDigit x ) 6 (upd ((g_X2_readDigit x ).2.2.1 6) (Int32.toNatClampNeg q) (f_X2_readDigit x ))) ) = 0 from b86)]
              exact ih (kkR (g_X2_readDigit x ) 6 (upd ((g_X2_readDigit x ).2.2.1 6) (Int32.toNatClampNeg q) (f_X2_readDigit x ))) (j + 1) (q + Int32.ofInt 1) _ (by omega) (by first | exact rd_at (show kAt (kkR (g_X2_readDigit x) 6 _) from rd_at ha (ad_lt b51)) (ad_lt b86) | exact rd_at ha (ad_lt b51)) (w33_up hq b60)
            · refine k_aload_n (i := 0) dX2_readOperands_89 (rfl : 89 + 1 = 90) rfl rfl ?_
              refine k_get 2 5 fg_X2_21 dX2_readOperands_90 (rfl : 90 + 3 = 93) (Nat.le_of_ble_eq_true rfl) rfl rfl ?_
              refine k_iload_n (i := 3) dX2_readOperands_93 (rfl : 93 + 1 = 94) rfl rfl ?_
              refine k_bipush (v := 10) dX2_readOperands_94 (rfl : 94 + 2 = 96) (by decide) ?_
              refine k_aload_n (i := 0) dX2_readOperands_96 (rfl : 96 + 1 = 97) rfl rfl ?_
              refine k_get 2 5 fg_X2_21 dX2_readOperands_97 (rfl : 97 + 3 = 100) (Nat.le_of_ble_eq_true rfl) rfl rfl ?_
              refine k_iload_n (i := 3) dX2_readOperands_100 (rfl : 100 + 1 = 101) rfl rfl ?_
              refine k_iald dX2_readOperands_101 (rfl : 101 + 1 = 102) (Nat.le_of_ble_eq_true rfl) rfl (w33_in hq b60) ?_
              refine k_imul dX2_readOperands_102 (rfl : 102 + 1 = 103) ?_
              refine k_aload_n (i := 0) dX2_readOperands_103 (rfl : 103 + 1 = 104) rfl rfl ?_
              refine k_callVd0 cv_X2_84 ⟨Nat.le_of_ble_eq_true rfl, Nat.le_of_ble_eq_true rfl⟩ (m_X2_readDigit (kAt_X6 (by rw [← hg1]; exact rd_at ha (ad_lt b51))) (ad_lt b86)) dX2_readOperands_104 (rfl : 104 + 3 = 107) (Nat.le_of_ble_eq_true rfl) rfl rfl rfl ⟨Nat.le_of_ble_eq_true rfl, Nat.le_of_ble_eq_true rfl⟩ ?_
              generalize hg2 : (g_X2_readDigit (kkR y1 6 (upd (y1.2.2.1 6) (Int32.toNatClampNeg q) (f_X2_readDigit x ))) ) = y2
              refine k_iadd dX2_readOperands_107 (rfl : 107 + 1 = 108) ?_
              refine k_iast dX2_readOperands_108 (rfl : 108 + 1 = 109) (Nat.le_of_ble_eq_true rfl) rfl (w33_in hq b60) ?_
              refine kf_X6 (f := (upd (y2.2.2.1 6) (Int32.toNatClampNeg q) ((10 * ((upd (y1.2.2.1 6) (Int32.toNatClampNeg q) (f_X2_readDigit x )) (Int32.toNatClampNeg q))) + (f_X2_readDigit (kkR y1 6 (upd (y1.2.2.1 6) (Int32.toNatClampNeg q) (f_X2_readDigit x ))) )))) rfl ?_
              refine k_iinc (i := 3) dX2_readOperands_109 (rfl : 109 + 3 = 112) rfl (Nat.le_of_ble_eq_true rfl) rfl ?_
              refine k_ls (ls2 := [.ref 109, .ref i9, .int p0, .int (q + Int32.ofInt 1), .int (nI j), .int (List.getD L (Int32.toNatClampNeg (nI j)) 0)]) rfl ?_
              refine k_iinc (i := 4) (v := (nI (j + 1))) dX2_readOperands_112 (rfl : 112 + 3 = 115) rfl (Nat.le_of_ble_eq_true rfl) (nI_1 _) ?_
              refine k_ls (ls2 := [.ref 109, .ref i9, .int p0, .int (q + Int32.ofInt 1), .int (nI (j + 1)), .int (List.getD L (Int32.toNatClampNeg (nI j)) 0)]) rfl ?_
              refine k_goto (tgt := 5) dX2_readOperands_115 (by decide) ?_
              subst hg2
              subst hg1
              rw [roL, if_pos (show (List.getD L (Int32.toNatClampNeg (nI j)) 0) = 100 from b26), if_neg (show ¬ ((f_X2_isAtDigit x ) = 0) from b51), if_pos (show q < 33 from b60), if_pos (show (List.getD L (Int32.toNatClampNeg (nI j)) 0) = 110 from b79), if_neg (show ¬ ((f_X2_isAtDigit (kkR (g_X2_readDigit x ) 6 (upd ((g_X2_readDigit x ).2.2.1 6) (Int32.toNatClampNeg q) (f_X2_readDigit x ))) ) = 0) from b86)]
              exact ih (kkR (g_X2_readDigit (kkR (g_X2_readDigit x ) 6 (upd ((g_X2_readDigit x ).2.2.1 6) (Int32.toNatClampNeg q) (f_X2_readDigit x ))) ) 6 (upd ((g_X2_readDigit (kkR (g_X2_readDigit x ) 6 (upd ((g_X2_readDigit x ).2.2.1 6) (Int32.toNatClampNeg q) (f_X2_readDigit x ))) ).2.2.1 6) (Int32.toNatClampNeg q) ((10 * ((upd ((g_X2_readDigit x ).2.2.1 6) (Int32.toNatClampNeg q) (f_X2_readDigit x )) (Int32.toNatClampNeg q))) + (f_X2_readDigit (kkR (g_X2_readDigit x ) 6 (upd ((g_X2_readDigit x ).2.2.1 6) (Int32.toNatClampNeg q) (f_X2_readDigit x ))) )))) (j + 1) (q + Int32.ofInt 1) _ (by omega) (by first | exact rd_at (show kAt (kkR (g_X2_readDigit x) 6 _) from rd_at ha (ad_lt b51)) (ad_lt b86) | exact rd_at ha (ad_lt b51)) (w33_up hq b60)
        · refine k_iconst (v := 0) dX2_readOperands_63 (rfl : 63 + 1 = 64) (by decide) ?_
          refine k_iret rfl rfl dX2_readOperands_64 (Nat.le_of_ble_eq_true rfl) (Nat.le_of_ble_eq_true rfl) ?_
          have e9 : (roL L (k + 1) x j q) = (x, 0) := by rw [roL, if_pos (show (List.getD L (Int32.toNatClampNeg (nI j)) 0) = 100 from b26), if_neg (show ¬ ((f_X2_isAtDigit x ) = 0) from b51), if_neg (show ¬ (q < 33) from b60)]
          exact kRt_of (congrArg (fun z => some (Value.int z)) (Eq.symm (congrArg Prod.snd e9))) (congrArg (fun z => kTp (kHc z) r) (Eq.symm (congrArg Prod.fst e9)))
    · refine k_iload (i := 5) dX2_readOperands_29 (rfl : 29 + 2 = 31) rfl ?_
      refine k_bipush (v := 110) dX2_readOperands_31 (rfl : 31 + 2 = 33) (by decide) ?_
      refine k_icmp_eq (tgt := 47) dX2_readOperands_33 (rfl : 33 + 3 = 36) (by decide) (fun b33 => ?_) (fun b33 => ?_)
      · refine k_aload_n (i := 0) dX2_readOperands_47 (rfl : 47 + 1 = 48) rfl rfl ?_
        refine k_callVd0 cv_X2_80 ⟨Nat.le_of_ble_eq_true rfl, Nat.le_of_ble_eq_true rfl⟩ (m_X2_isAtDigit ha) dX2_readOperands_48 (rfl : 48 + 3 = 51) (Nat.le_of_ble_eq_true rfl) rfl rfl rfl ⟨Nat.le_of_ble_eq_true rfl, Nat.le_of_ble_eq_true rfl⟩ ?_
        refine k_if_eq (tgt := 63) dX2_readOperands_51 (rfl : 51 + 3 = 54) (by decide) (fun b51 => ?_) (fun b51 => ?_)
        · refine k_iconst (v := 0) dX2_readOperands_63 (rfl : 63 + 1 = 64) (by decide) ?_
          refine k_iret rfl rfl dX2_readOperands_64 (Nat.le_of_ble_eq_true rfl) (Nat.le_of_ble_eq_true rfl) ?_
          have e9 : (roL L (k + 1) x j q) = (x, 0) := by rw [roL, if_neg (show ¬ ((List.getD L (Int32.toNatClampNeg (nI j)) 0) = 100) from b26), if_pos (show (List.getD L (Int32.toNatClampNeg (nI j)) 0) = 110 from b33), if_pos (show (f_X2_isAtDigit x ) = 0 from b51)]
          exact kRt_of (congrArg (fun z => some (Value.int z)) (Eq.symm (congrArg Prod.snd e9))) (congrArg (fun z => kTp (kHc z) r) (Eq.symm (congrArg Prod.fst e9)))
        · refine k_iload_n (i := 3) dX2_readOperands_54 (rfl : 54 + 1 = 55) rfl rfl ?_
          refine k_aload_n (i := 0) dX2_readOperands_55 (rfl : 55 + 1 = 56) rfl rfl ?_
          refine k_get 2 5 fg_X2_21 dX2_readOperands_56 (rfl : 56 + 3 = 59) (Nat.le_of_ble_eq_true rfl) rfl rfl ?_
          refine k_alen (ty := .int) (t := 0) (n := 33) (v := 33) rfl dX2_readOperands_59 (rfl : 59 + 1 = 60) (Nat.le_of_ble_eq_true rfl) rfl rfl (by decide) ?_
          refine k_icmp_lt (tgt := 65) dX2_readOperands_60 (rfl : 60 + 3 = 63) (by decide) (fun b60 => ?_) (fun b60 => ?_)
          · refine k_aload_n (i := 0) dX2_readOperands_65 (rfl : 65 + 1 = 66) rfl rfl ?_
            refine k_get 2 5 fg_X2_21 dX2_readOperands_66 (rfl : 66 + 3 = 69) (Nat.le_of_ble_eq_true rfl) rfl rfl ?_
            refine k_iload_n (i := 3) dX2_readOperands_69 (rfl : 69 + 1 = 70) rfl rfl ?_
            refine k_aload_n (i := 0) dX2_readOperands_70 (rfl : 70 + 1 = 71) rfl rfl ?_
            refine k_callVd0 cv_X2_84 ⟨Nat.le_of_ble_eq_true rfl, Nat.le_of_ble_eq_true rfl⟩ (m_X2_readDigit ha (ad_lt b51)) dX2_readOperands_71 (rfl : 71 + 3 = 74) (Nat.le_of_ble_eq_true rfl) rfl rfl rfl ⟨Nat.le_of_ble_eq_true rfl, Nat.le_of_ble_eq_true rfl⟩ ?_
            generalize hg3 : (g_X2_readDigit x ) = y3
            refine k_iast dX2_readOperands_74 (rfl : 74 + 1 = 75) (Nat.le_of_ble_eq_true rfl) rfl (w33_in hq b60) ?_
            refine kf_X6 (f := (upd (y3.2.2.1 6) (Int32.toNatClampNeg q) (f_X2_readDigit x ))) rfl ?_
            refine k_iload (i := 5) dX2_readOperands_75 (rfl : 75 + 2 = 77) rfl ?_
            refine k_bipush (v := 110) dX2_readOperands_77 (rfl : 77 + 2 = 79) (by decide) ?_
            refine k_icmp_ne (tgt := 109) dX2_readOperands_79 (rfl : 79 + 3 = 82) (by decide) (fun b79 => ?_) (fun b79 => ?_)
            · refine k_iinc (i := 3) dX2_readOperands_109 (rfl : 109 + 3 = 112) rfl (Nat.le_of_ble_eq_true rfl) rfl ?_
              refine k_ls (ls2 := [.ref 109, .ref i9, .int p0, .int (q + Int32.ofInt 1), .int (nI j), .int (List.getD L (Int32.toNatClampNeg (nI j)) 0)]) rfl ?_
              refine k_iinc (i := 4) (v := (nI (j + 1))) dX2_readOperands_112 (rfl : 112 + 3 = 115) rfl (Nat.le_of_ble_eq_true rfl) (nI_1 _) ?_
              refine k_ls (ls2 := [.ref 109, .ref i9, .int p0, .int (q + Int32.ofInt 1), .int (nI (j + 1)), .int (List.getD L (Int32.toNatClampNeg (nI j)) 0)]) rfl ?_
              refine k_goto (tgt := 5) dX2_readOperands_115 (by decide) ?_
              subst hg3
              rw [roL, if_neg (show ¬ ((List.getD L (Int32.toNatClampNeg (nI j)) 0) = 100) from b26), if_pos (show (List.getD L (Int32.toNatClampNeg (nI j)) 0) = 110 from b33), if_neg (show ¬ ((f_X2_isAtDigit x ) = 0) from b51), if_pos (show q < 33 from b60), if_neg (show ¬ ((List.getD L (Int32.toNatClampNeg (nI j)) 0) = 110) from b79)]
              exact ih (kkR (g_X2_readDigit x ) 6 (upd ((g_X2_readDigit x ).2.2.1 6) (Int32.toNatClampNeg q) (f_X2_readDigit x ))) (j + 1) (q + Int32.ofInt 1) _ (by omega) (by first | exact rd_at (show kAt (kkR (g_X2_readDigit x) 6 _) from rd_at ha (ad_lt b51)) (ad_lt b86) | exact rd_at ha (ad_lt b51)) (w33_up hq b60)
            · refine k_aload_n (i := 0) dX2_readOperands_82 (rfl : 82 + 1 = 83) rfl rfl ?_
              refine k_callVd0 cv_X2_80 ⟨Nat.le_of_ble_eq_true rfl, Nat.le_of_ble_eq_true rfl⟩ (m_X2_isAtDigit (kAt_X6 (by rw [← hg3]; exact rd_at ha (ad_lt b51)))) dX2_readOperands_83 (rfl : 83 + 3 = 86) (Nat.le_of_ble_eq_true rfl) rfl rfl rfl ⟨Nat.le_of_ble_eq_true rfl, Nat.le_of_ble_eq_true rfl⟩ ?_
              refine k_if_eq (tgt := 109) dX2_readOperands_86 (rfl : 86 + 3 = 89) (by decide) (fun b86 => ?_) (fun b86 => ?_)
              · refine k_iinc (i := 3) dX2_readOperands_109 (rfl : 109 + 3 = 112) rfl (Nat.le_of_ble_eq_true rfl) rfl ?_
                refine k_ls (ls2 := [.ref 109, .ref i9, .int p0, .int (q + Int32.ofInt 1), .int (nI j), .int (List.getD L (Int32.toNatClampNeg (nI j)) 0)]) rfl ?_
                refine k_iinc (i := 4) (v := (nI (j + 1))) dX2_readOperands_112 (rfl : 112 + 3 = 115) rfl (Nat.le_of_ble_eq_true rfl) (nI_1 _) ?_
                refine k_ls (ls2 := [.ref 109, .ref i9, .int p0, .int (q + Int32.ofInt 1), .int (nI (j + 1)), .int (List.getD L (Int32.toNatClampNeg (nI j)) 0)]) rfl ?_
                refine k_goto (tgt := 5) dX2_readOperands_115 (by decide) ?_
                subst hg3
                rw [roL, if_neg (show ¬ ((List.getD L (Int32.toNatClampNeg (nI j)) 0) = 100) from b26), if_pos (show (List.getD L (Int32.toNatClampNeg (nI j)) 0) = 110 from b33), if_neg (show ¬ ((f_X2_isAtDigit x ) = 0) from b51), if_pos (show q < 33 from b60), if_pos (show (List.getD L (Int32.toNatClampNeg (nI j)) 0) = 110 from b79), if_pos (show (f_X2_isAtDigit (kkR (g_X2_readDigit x ) 6 (upd ((g_X2_readDigit x ).2.2.1 6) (Int32.toNatClampNeg q) (f_X2_readDigit x ))) ) = 0 from b86)]
                exact ih (kkR (g_X2_readDigit x ) 6 (upd ((g_X2_readDigit x ).2.2.1 6) (Int32.toNatClampNeg q) (f_X2_readDigit x ))) (j + 1) (q + Int32.ofInt 1) _ (by omega) (by first | exact rd_at (show kAt (kkR (g_X2_readDigit x) 6 _) from rd_at ha (ad_lt b51)) (ad_lt b86) | exact rd_at ha (ad_lt b51)) (w33_up hq b60)
              · refine k_aload_n (i := 0) dX2_readOperands_89 (rfl : 89 + 1 = 90) rfl rfl ?_
                refine k_get 2 5 fg_X2_21 dX2_readOperands_90 (rfl : 90 + 3 = 93) (Nat.le_of_ble_eq_true rfl) rfl rfl ?_
                refine k_iload_n (i := 3) dX2_readOperands_93 (rfl : 93 + 1 = 94) rfl rfl ?_
                refine k_bipush (v := 10) dX2_readOperands_94 (rfl : 94 + 2 = 96) (by decide) ?_
                refine k_aload_n (i := 0) dX2_readOperands_96 (rfl : 96 + 1 = 97) rfl rfl ?_
                refine k_get 2 5 fg_X2_21 dX2_readOperands_97 (rfl : 97 + 3 = 100) (Nat.le_of_ble_eq_true rfl) rfl rfl ?_
                refine k_iload_n (i := 3) dX2_readOperands_100 (rfl : 100 + 1 = 101) rfl rfl ?_
                refine k_iald dX2_readOperands_101 (rfl : 101 + 1 = 102) (Nat.le_of_ble_eq_true rfl) rfl (w33_in hq b60) ?_
                refine k_imul dX2_readOperands_102 (rfl : 102 + 1 = 103) ?_
                refine k_aload_n (i := 0) dX2_readOperands_103 (rfl : 103 + 1 = 104) rfl rfl ?_
                refine k_callVd0 cv_X2_84 ⟨Nat.le_of_ble_eq_true rfl, Nat.le_of_ble_eq_true rfl⟩ (m_X2_readDigit (kAt_X6 (by rw [← hg3]; exact rd_at ha (ad_lt b51))) (ad_lt b86)) dX2_readOperands_104 (rfl : 104 + 3 = 107) (Nat.le_of_ble_eq_true rfl) rfl rfl rfl ⟨Nat.le_of_ble_eq_true rfl, Nat.le_of_ble_eq_true rfl⟩ ?_
                generalize hg4 : (g_X2_readDigit (kkR y3 6 (upd (y3.2.2.1 6) (Int32.toNatClampNeg q) (f_X2_readDigit x ))) ) = y4
                refine k_iadd dX2_readOperands_107 (rfl : 107 + 1 = 108) ?_
                refine k_iast dX2_readOperands_108 (rfl : 108 + 1 = 109) (Nat.le_of_ble_eq_true rfl) rfl (w33_in hq b60) ?_
                refine kf_X6 (f := (upd (y4.2.2.1 6) (Int32.toNatClampNeg q) ((10 * ((upd (y3.2.2.1 6) (Int32.toNatClampNeg q) (f_X2_readDigit x )) (Int32.toNatClampNeg q))) + (f_X2_readDigit (kkR y3 6 (upd (y3.2.2.1 6) (Int32.toNatClampNeg q) (f_X2_readDigit x ))) )))) rfl ?_
                refine k_iinc (i := 3) dX2_readOperands_109 (rfl : 109 + 3 = 112) rfl (Nat.le_of_ble_eq_true rfl) rfl ?_
                refine k_ls (ls2 := [.ref 109, .ref i9, .int p0, .int (q + Int32.ofInt 1), .int (nI j), .int (List.getD L (Int32.toNatClampNeg (nI j)) 0)]) rfl ?_
                refine k_iinc (i := 4) (v := (nI (j + 1))) dX2_readOperands_112 (rfl : 112 + 3 = 115) rfl (Nat.le_of_ble_eq_true rfl) (nI_1 _) ?_
                refine k_ls (ls2 := [.ref 109, .ref i9, .int p0, .int (q + Int32.ofInt 1), .int (nI (j + 1)), .int (List.getD L (Int32.toNatClampNeg (nI j)) 0)]) rfl ?_
                refine k_goto (tgt := 5) dX2_readOperands_115 (by decide) ?_
                subst hg4
                subst hg3
                rw [roL, if_neg (show ¬ ((List.getD L (Int32.toNatClampNeg (nI j)) 0) = 100) from b26), if_pos (show (List.getD L (Int32.toNatClampNeg (nI j)) 0) = 110 from b33), if_neg (show ¬ ((f_X2_isAtDigit x ) = 0) from b51), if_pos (show q < 33 from b60), if_pos (show (List.getD L (Int32.toNatClampNeg (nI j)) 0) = 110 from b79), if_neg (show ¬ ((f_X2_isAtDigit (kkR (g_X2_readDigit x ) 6 (upd ((g_X2_readDigit x ).2.2.1 6) (Int32.toNatClampNeg q) (f_X2_readDigit x ))) ) = 0) from b86)]
                exact ih (kkR (g_X2_readDigit (kkR (g_X2_readDigit x ) 6 (upd ((g_X2_readDigit x ).2.2.1 6) (Int32.toNatClampNeg q) (f_X2_readDigit x ))) ) 6 (upd ((g_X2_readDigit (kkR (g_X2_readDigit x ) 6 (upd ((g_X2_readDigit x ).2.2.1 6) (Int32.toNatClampNeg q) (f_X2_readDigit x ))) ).2.2.1 6) (Int32.toNatClampNeg q) ((10 * ((upd ((g_X2_readDigit x ).2.2.1 6) (Int32.toNatClampNeg q) (f_X2_readDigit x )) (Int32.toNatClampNeg q))) + (f_X2_readDigit (kkR (g_X2_readDigit x ) 6 (upd ((g_X2_readDigit x ).2.2.1 6) (Int32.toNatClampNeg q) (f_X2_readDigit x ))) )))) (j + 1) (q + Int32.ofInt 1) _ (by omega) (by first | exact rd_at (show kAt (kkR (g_X2_readDigit x) 6 _) from rd_at ha (ad_lt b51)) (ad_lt b86) | exact rd_at ha (ad_lt b51)) (w33_up hq b60)
          · refine k_iconst (v := 0) dX2_readOperands_63 (rfl : 63 + 1 = 64) (by decide) ?_
            refine k_iret rfl rfl dX2_readOperands_64 (Nat.le_of_ble_eq_true rfl) (Nat.le_of_ble_eq_true rfl) ?_
            have e9 : (roL L (k + 1) x j q) = (x, 0) := by rw [roL, if_neg (show ¬ ((List.getD L (Int32.toNatClampNeg (nI j)) 0) = 100) from b26), if_pos (show (List.getD L (Int32.toNatClampNeg (nI j)) 0) = 110 from b33), if_neg (show ¬ ((f_X2_isAtDigit x ) = 0) from b51), if_neg (show ¬ (q < 33) from b60)]
            exact kRt_of (congrArg (fun z => some (Value.int z)) (Eq.symm (congrArg Prod.snd e9))) (congrArg (fun z => kTp (kHc z) r) (Eq.symm (congrArg Prod.fst e9)))
      · refine k_aload_n (i := 0) dX2_readOperands_36 (rfl : 36 + 1 = 37) rfl rfl ?_
        refine k_iload (i := 5) dX2_readOperands_37 (rfl : 37 + 2 = 39) rfl ?_
        refine k_callVd1 cv_X2_39 ⟨Nat.le_of_ble_eq_true rfl, Nat.le_of_ble_eq_true rfl⟩ (m_X2_readSign ha) dX2_readOperands_39 (rfl : 39 + 3 = 42) (Nat.le_of_ble_eq_true rfl) rfl rfl rfl ⟨Nat.le_of_ble_eq_true rfl, Nat.le_of_ble_eq_true rfl⟩ ?_
        generalize hg5 : (g_X2_readSign x (List.getD L (Int32.toNatClampNeg (nI j)) 0)) = y5
        refine k_if_ne (tgt := 112) dX2_readOperands_42 (rfl : 42 + 3 = 45) (by decide) (fun b42 => ?_) (fun b42 => ?_)
        · refine k_iinc (i := 4) (v := (nI (j + 1))) dX2_readOperands_112 (rfl : 112 + 3 = 115) rfl (Nat.le_of_ble_eq_true rfl) (nI_1 _) ?_
          refine k_ls (ls2 := [.ref 109, .ref i9, .int p0, .int q, .int (nI (j + 1)), .int (List.getD L (Int32.toNatClampNeg (nI j)) 0)]) rfl ?_
          refine k_goto (tgt := 5) dX2_readOperands_115 (by decide) ?_
          subst hg5
          rw [roL, if_neg (show ¬ ((List.getD L (Int32.toNatClampNeg (nI j)) 0) = 100) from b26), if_neg (show ¬ ((List.getD L (Int32.toNatClampNeg (nI j)) 0) = 110) from b33), if_neg (show ¬ ((f_X2_readSign x (List.getD L (Int32.toNatClampNeg (nI j)) 0)) = 0) from b42)]
          exact ih (g_X2_readSign x (List.getD L (Int32.toNatClampNeg (nI j)) 0)) (j + 1) q _ (by omega) (rs_at ha) hq
        · refine k_iconst (v := 0) dX2_readOperands_45 (rfl : 45 + 1 = 46) (by decide) ?_
          refine k_iret rfl rfl dX2_readOperands_46 (Nat.le_of_ble_eq_true rfl) (Nat.le_of_ble_eq_true rfl) ?_
          subst hg5
          have e9 : (roL L (k + 1) x j q) = ((g_X2_readSign x (List.getD L (Int32.toNatClampNeg (nI j)) 0)), 0) := by rw [roL, if_neg (show ¬ ((List.getD L (Int32.toNatClampNeg (nI j)) 0) = 100) from b26), if_neg (show ¬ ((List.getD L (Int32.toNatClampNeg (nI j)) 0) = 110) from b33), if_pos (show (f_X2_readSign x (List.getD L (Int32.toNatClampNeg (nI j)) 0)) = 0 from b42)]
          exact kRt_of (congrArg (fun z => some (Value.int z)) (Eq.symm (congrArg Prod.snd e9))) (congrArg (fun z => kTp (kHc z) r) (Eq.symm (congrArg Prod.fst e9)))
set_option maxRecDepth 100000 in
set_option maxHeartbeats 4000000 in
theorem m_X2_readOperands {x : kK} {r : kH} {i9 : Nat} {L : List Int32} {p0 : Int32} (hm : (i9, L) ∈ kTx) (ha : kAt x) (hq : kW33 p0) : kMet kX2_readOperands false 0 0 [.ref 109, .ref i9, .int p0] (kTp (kHc x) r) 130 (kRt (some (.int (roL L (List.length L) x 0 p0).2)) (kTp (kHc (roL L (List.length L) x 0 p0).1) r) 130) := by
  refine kMet.in (by decide) rfl rfl _ rfl ?_
  refine k_iload_n (i := 2) dX2_readOperands_0 (rfl : 0 + 1 = 1) rfl rfl ?_
  refine k_istore_n (i := 3) dX2_readOperands_1 (rfl : 1 + 1 = 2) rfl (Nat.le_of_ble_eq_true rfl) ?_
  refine k_iconst (v := 0) dX2_readOperands_2 (rfl : 2 + 1 = 3) (by decide) ?_
  refine k_istore (i := 4) dX2_readOperands_3 (rfl : 3 + 2 = 5) (Nat.le_of_ble_eq_true rfl) ?_
  exact lroL hm (kTx_len hm) (List.length L) x 0 p0 _ (by omega) ha hq
theorem w33_3 {a : Int32} (h : ∃ i, i < 11 ∧ a = nI i) : kW33 (3 * a) := by
  obtain ⟨i, hi, rfl⟩ := h
  have h2 : ∀ i, i < 11 → (3 : Int32) * nI i = nI (3 * i) := by decide
  exact ⟨3 * i, by omega, h2 i hi⟩
theorem in11 {a : Int32} (h : ∃ i, i < 11 ∧ a = nI i) : vp_in a 11 := by
  obtain ⟨i, hi, rfl⟩ := h
  exact vp_in_nI hi (by omega)
/-- reading changes no more than where it stands and what was read -/
def kRd (x y : kK) : Prop := y.1 = x.1 ∧ (∀ k, k ≠ 5 → y.2.1 k = x.2.1 k) ∧ (∀ k, k ≠ 6 → y.2.2.1 k = x.2.2.1 k) ∧ y.2.2.2 = x.2.2.2
theorem kRd_r {x : kK} : kRd x x := ⟨rfl, fun _ _ => rfl, fun _ _ => rfl, rfl⟩
theorem kRd_t {x y z : kK} (h1 : kRd x y) (h2 : kRd y z) : kRd x z := ⟨h2.1.trans h1.1, fun k hk => (h2.2.1 k hk).trans (h1.2.1 k hk), fun k hk => (h2.2.2.1 k hk).trans (h1.2.2.1 k hk), h2.2.2.2.trans h1.2.2.2⟩
theorem kRd_S {x : kK} {v : Int32} : kRd x (kkS x 5 v) := ⟨rfl, fun k hk => if_neg hk, fun _ _ => rfl, rfl⟩
theorem kRd_X {x : kK} {f : Nat → Int32} : kRd x (kkR x 6 f) := ⟨rfl, fun _ _ => rfl, fun k hk => if_neg hk, rfl⟩
theorem rs_rd {x : kK} {c : Int32} : kRd x (g_X2_readSign x c) := by
  unfold g_X2_readSign
  repeat' split
  all_goals first
    | exact kRd_r
    | exact kRd_S
theorem rd_rd {x : kK} : kRd x (g_X2_readDigit x) := kRd_S
theorem rkL_rd {k : Nat} : ∀ {x : kK} {j : Nat} {g : Int32}, Sum.elim (fun y : kK × Option Nat => kRd x y.1) (fun y : kK × Int32 => kRd x y.1) (rkL k x j g) := by
  induction k with
  | zero => intro x j g; exact kRd_r
  | succ k ih =>
    intro x j g
    rw [rkL]
    split
    · exact kRd_S
    · exact ih
theorem rk_rd {x : kK} : kRd x (g_X2_readKeyword x) := by
  have h := rkL_rd (k := 10) (x := x) (j := 0) (g := 0)
  unfold g_X2_readKeyword
  revert h
  generalize rkL 10 x 0 0 = z
  intro h
  cases z with
  | inl y => exact h
  | inr y => exact kRd_t h kRd_S
theorem roL_ok {L : List Int32} {k : Nat} : ∀ {x : kK} {j : Nat} {q : Int32}, kAt x → kAt (roL L k x j q).1 ∧ kRd x (roL L k x j q).1 := by
  induction k with
  | zero => intro x j q ha; exact ⟨ha, kRd_r⟩
  | succ k ih =>
    intro x j q ha
    have one : ∀ (q2 : Int32) (f : Nat → Int32), ¬ f_X2_isAtDigit x = 0 → kAt (roL L k (kkR (g_X2_readDigit x) 6 f) (j + 1) q2).1 ∧ kRd x (roL L k (kkR (g_X2_readDigit x) 6 f) (j + 1) q2).1 := by
      intro q2 f hd
      have h := ih (x := kkR (g_X2_readDigit x) 6 f) (j := j + 1) (q := q2) (kAt_X6 (rd_at ha (ad_lt hd)))
      exact ⟨h.1, kRd_t (kRd_t rd_rd kRd_X) h.2⟩
    have two : ∀ (q2 : Int32) (f f2 : Nat → Int32), ¬ f_X2_isAtDigit x = 0 → ¬ f_X2_isAtDigit (kkR (g_X2_readDigit x) 6 f) = 0 → kAt (roL L k (kkR (g_X2_readDigit (kkR (g_X2_readDigit x) 6 f)) 6 f2) (j + 1) q2).1 ∧ kRd x (roL L k (kkR (g_X2_readDigit (kkR (g_X2_readDigit x) 6 f)) 6 f2) (j + 1) q2).1 := by
      intro q2 f f2 hd hd2
      have h := ih (x := kkR (g_X2_readDigit (kkR (g_X2_readDigit x) 6 f)) 6 f2) (j := j + 1) (q := q2) (kAt_X6 (rd_at (x := kkR (g_X2_readDigit x) 6 f) (kAt_X6 (rd_at ha (ad_lt hd))) (ad_lt hd2)))
      exact ⟨h.1, kRd_t (kRd_t (kRd_t (kRd_t rd_rd kRd_X) rd_rd) kRd_X) h.2⟩
    have sg : ∀ (q2 c : Int32), kAt (roL L k (g_X2_readSign x c) (j + 1) q2).1 ∧ kRd x (roL L k (g_X2_readSign x c) (j + 1) q2).1 := by
      intro q2 c
      have h := ih (x := g_X2_readSign x c) (j := j + 1) (q := q2) (rs_at ha)
      exact ⟨h.1, kRd_t rs_rd h.2⟩
    rw [roL]
    split
    · split
      · exact ⟨ha, kRd_r⟩
      · rename_i hd
        split
        · split
          · split
            · exact one _ _ hd
            · rename_i hd2; exact two _ _ _ hd hd2
          · exact one _ _ hd
        · exact ⟨ha, kRd_r⟩
    · split
      · split
        · exact ⟨ha, kRd_r⟩
        · rename_i hd
          split
          · split
            · exact one _ _ hd
            · rename_i hd2; exact two _ _ _ hd hd2
          · exact ⟨ha, kRd_r⟩
      · split
        · exact ⟨rs_at ha, rs_rd⟩
        · exact sg _ _
theorem roL_bool {L : List Int32} {k : Nat} : ∀ {x : kK} {j : Nat} {q : Int32}, (roL L k x j q).2 = 0 ∨ (roL L k x j q).2 = 1 := by
  induction k with
  | zero => intro x j q; exact Or.inr rfl
  | succ k ih =>
    intro x j q
    rw [roL]
    repeat' split
    all_goals first
      | exact Or.inl rfl
      | exact ih
theorem nar_b {v : Int32} (h : v = 0 ∨ v = 1) : narrow .boolean (.int v) = .int v := by rcases h with h | h <;> rw [h] <;> rfl
def f_X2_readCommand (x : kK) (a1 : Int32) : Int32 := Option.elim (f_X2_readKeyword x ) (0) (fun ko1 => (roL (kFormB.getD (kFormOf.getD ko1 0) []) (List.length (kFormB.getD (kFormOf.getD ko1 0) [])) (kkE (g_X2_readKeyword x ) (va_up (g_X2_readKeyword x ).2.2.2 (Int32.toNatClampNeg a1) (some (1010 + ko1)))) 0 (3 * a1)).2)
def g_X2_readCommand (x : kK) (a1 : Int32) : kK := Option.elim (f_X2_readKeyword x ) ((g_X2_readKeyword x )) (fun ko1 => (roL (kFormB.getD (kFormOf.getD ko1 0) []) (List.length (kFormB.getD (kFormOf.getD ko1 0) [])) (kkE (g_X2_readKeyword x ) (va_up (g_X2_readKeyword x ).2.2.2 (Int32.toNatClampNeg a1) (some (1010 + ko1)))) 0 (3 * a1)).1)
set_option maxRecDepth 100000 in
set_option maxHeartbeats 4000000 in
theorem m_X2_readCommand {x : kK} {r : kH} {a1 : Int32} (ha : kAt x) (h1 : ∃ i, i < 11 ∧ a1 = nI i) : kMet kX2_readCommand false 0 0 [.ref 109, .int a1] (kTp (kHc x) r) 130 (kRt (some (.int (f_X2_readCommand x a1))) (kTp (kHc (g_X2_readCommand x a1)) r) 130) := by
  refine kMet.in (by decide) rfl rfl _ rfl ?_
  refine k_aload_n (i := 0) dX2_readCommand_0 (rfl : 0 + 1 = 1) rfl rfl ?_
  refine k_callVd0 cv_X2_43 ⟨Nat.le_of_ble_eq_true rfl, Nat.le_of_ble_eq_true rfl⟩ (m_X2_readKeyword ha) dX2_readCommand_1 (rfl : 1 + 3 = 4) (Nat.le_of_ble_eq_true rfl) rfl rfl rfl ⟨Nat.le_of_ble_eq_true rfl, Nat.le_of_ble_eq_true rfl⟩ ?_
  generalize hg1 : (g_X2_readKeyword x ) = y1
  rcases ho1 : (f_X2_readKeyword x ) with _ | ko1
  · refine k_astore_nN (i := 2) dX2_readCommand_4 (rfl : 4 + 1 = 5) rfl (Nat.le_of_ble_eq_true rfl) ?_
    refine k_ls (ls2 := [.ref 109, .int a1, .null]) rfl ?_
    refine k_aload_nN (i := 2) dX2_readCommand_5 (rfl : 5 + 1 = 6) rfl rfl ?_
    refine k_ifnonnullN dX2_readCommand_6 (rfl : 6 + 3 = 9) ?_
    refine k_iconst (v := 0) dX2_readCommand_9 (rfl : 9 + 1 = 10) (by decide) ?_
    refine k_iret rfl rfl dX2_readCommand_10 (Nat.le_of_ble_eq_true rfl) (Nat.le_of_ble_eq_true rfl) ?_
    subst hg1
    exact kRt_of (congrArg (fun z => some (Value.int z)) (Eq.symm (congrArg (fun z => Option.elim z _ _) ho1))) (congrArg (fun z => kTp (kHc z) r) (Eq.symm (congrArg (fun z => Option.elim z _ _) ho1)))
  · refine k_astore_n (i := 2) dX2_readCommand_4 (rfl : 4 + 1 = 5) rfl (Nat.le_of_ble_eq_true rfl) ?_
    refine k_ls (ls2 := [.ref 109, .int a1, .ref (1010 + ko1)]) rfl ?_
    refine k_aload_n (i := 2) dX2_readCommand_5 (rfl : 5 + 1 = 6) rfl rfl ?_
    refine k_ifnonnull (tgt := 11) dX2_readCommand_6 (by decide) ?_
    refine k_aload_n (i := 0) dX2_readCommand_11 (rfl : 11 + 1 = 12) rfl rfl ?_
    refine k_get 2 4 fg_X2_17 dX2_readCommand_12 (rfl : 12 + 3 = 15) (Nat.le_of_ble_eq_true rfl) rfl rfl ?_
    refine k_iload_n (i := 1) dX2_readCommand_15 (rfl : 15 + 1 = 16) rfl rfl ?_
    refine k_aload_n (i := 2) dX2_readCommand_16 (rfl : 16 + 1 = 17) rfl rfl ?_
    refine k_east (a := ko1) dX2_readCommand_17 (rfl : 17 + 1 = 18) (Nat.le_of_ble_eq_true rfl) rfl (in11 h1) ((rk_ok ha).2 _ ho1) ?_
    refine kf_XE (f := (va_up y1.2.2.2 (Int32.toNatClampNeg a1) (some (1010 + ko1)))) rfl ?_
    refine k_aload_n (i := 0) dX2_readCommand_18 (rfl : 18 + 1 = 19) rfl rfl ?_
    refine k_aload_n (i := 2) dX2_readCommand_19 (rfl : 19 + 1 = 20) rfl rfl ?_
    refine k_eform (k9 := ko1) ((rk_ok ha).2 _ ho1) (gm 1954 (by decide +kernel) (by decide +kernel)) dX2_readCommand_20 (rfl : 20 + 3 = 23) ?_
    refine k_iconst (v := 3) dX2_readCommand_23 (rfl : 23 + 1 = 24) (by decide) ?_
    refine k_iload_n (i := 1) dX2_readCommand_24 (rfl : 24 + 1 = 25) rfl rfl ?_
    refine k_imul dX2_readCommand_25 (rfl : 25 + 1 = 26) ?_
    refine k_callVd2 cv_X2_51 ⟨Nat.le_of_ble_eq_true rfl, Nat.le_of_ble_eq_true rfl⟩ (m_X2_readOperands (kTx_f ((rk_ok ha).2 _ ho1)) (kAt_E (by rw [← hg1]; exact (rk_ok ha).1)) (w33_3 h1)) dX2_readCommand_26 (rfl : 26 + 3 = 29) (Nat.le_of_ble_eq_true rfl) rfl rfl rfl ⟨Nat.le_of_ble_eq_true rfl, Nat.le_of_ble_eq_true rfl⟩ ?_
    generalize hg2 : (roL (kFormB.getD (kFormOf.getD ko1 0) []) (List.length (kFormB.getD (kFormOf.getD ko1 0) [])) (kkE y1 (va_up y1.2.2.2 (Int32.toNatClampNeg a1) (some (1010 + ko1)))) 0 (3 * a1)).1 = y2
    refine k_iret rfl (nar_b roL_bool) dX2_readCommand_29 (Nat.le_of_ble_eq_true rfl) (Nat.le_of_ble_eq_true rfl) ?_
    subst hg2
    subst hg1
    exact kRt_of (congrArg (fun z => some (Value.int z)) (Eq.symm (congrArg (fun z => Option.elim z _ _) ho1))) (congrArg (fun z => kTp (kHc z) r) (Eq.symm (congrArg (fun z => Option.elim z _ _) ho1)))
/-- the commands that were read -/
def kCn (x : kK) (c : Nat) : Prop := ∀ i, i < c → ∃ q, q < 10 ∧ x.2.2.2 i = some (1010 + q)
theorem rc_ok {x : kK} {i : Nat} (ha : kAt x) (hi : i < 11) : kAt (g_X2_readCommand x (nI i)) ∧ (g_X2_readCommand x (nI i)).1 = x.1 ∧ (∀ k, k ≠ 5 → (g_X2_readCommand x (nI i)).2.1 k = x.2.1 k) ∧ (∀ k, k ≠ 6 → (g_X2_readCommand x (nI i)).2.2.1 k = x.2.2.1 k) ∧ (kCn x i → ¬ f_X2_readCommand x (nI i) = 0 → kCn (g_X2_readCommand x (nI i)) (i + 1)) := by
  have h := rk_ok ha
  have h2 := rk_rd (x := x)
  unfold g_X2_readCommand f_X2_readCommand
  revert h
  generalize f_X2_readKeyword x = z
  intro h
  cases z with
  | none => exact ⟨h.1, h2.1, h2.2.1, h2.2.2.1, fun _ hn => absurd rfl hn⟩
  | some q =>
    obtain ⟨ha1, hq⟩ := h
    have hq := hq q rfl
    simp only [Option.elim_some]
    have h3 := fun (L : List Int32) (n : Nat) (w : Int32) (f : Nat → Option Nat) => roL_ok (L := L) (k := n) (x := kkE (g_X2_readKeyword x) f) (j := 0) (q := w) (kAt_E ha1)
    refine ⟨(h3 _ _ _ _).1, (h3 _ _ _ _).2.1.trans h2.1, fun k hk => ((h3 _ _ _ _).2.2.1 k hk).trans (h2.2.1 k hk), fun k hk => ((h3 _ _ _ _).2.2.2.1 k hk).trans (h2.2.2.1 k hk), fun hc _ => ?_⟩
    intro u hu
    rw [(h3 _ _ _ _).2.2.2.2]
    show ∃ q2, q2 < 10 ∧ va_up (g_X2_readKeyword x).2.2.2 (Int32.toNatClampNeg (nI i)) (some (1010 + q)) u = some (1010 + q2)
    rw [nI_clamp (by omega)]
    unfold va_up
    split
    · exact ⟨q, hq, rfl⟩
    · rw [h2.2.2.2]
      exact hc u (by omega)
def rcL : Nat → kK → Nat → (kK × Int32) ⊕ (kK)
  | 0, x, j => .inr x
  | k + 1, x, j => if (f_X2_readCommand x (nI j)) = 0 then (.inl ((g_X2_readCommand x (nI j)), 0)) else (if ((g_X2_readCommand x (nI j)).2.1 5) = ((g_X2_readCommand x (nI j)).2.1 4) then (.inl ((kkS (g_X2_readCommand x (nI j)) 6 ((nI j) + 1)), 1)) else (if (f_X2_readSign (kkS (g_X2_readCommand x (nI j)) 6 ((nI j) + 1)) 59) = 0 then (.inl ((g_X2_readSign (kkS (g_X2_readCommand x (nI j)) 6 ((nI j) + 1)) 59), 0)) else (rcL k (g_X2_readSign (kkS (g_X2_readCommand x (nI j)) 6 ((nI j) + 1)) 59) (j + 1))))
set_option maxRecDepth 100000 in
set_option maxHeartbeats 4000000 in
theorem lrcL {r : kH} {Q : kQ}  : ∀ (k : Nat) (x : kK) (j : Nat), j + k = 11 → kAt x → (∀ y, (rcL k x j) = .inl y → Q (.inl (some (.int y.2))) (kTp (kHc y.1) r) 130) → (∀ y, (rcL k x j) = .inr y → ∀ (z1 : Value), kEv kX2_readCommands (kRm kX2_readCommands 0 0) (kFm false 0 0 (Q)) false 65 [.ref 109, z1] [] (kTp (kHc y) r) 130 0 0) → kEv kX2_readCommands (kRm kX2_readCommands 0 0) (kFm false 0 0 (Q)) false 12 [.ref 109, .int (nI j)] [] (kTp (kHc x) r) 130 0 0 := by
  intro k
  induction k with
  | zero =>
    intro x j hj ha hr hx
    refine k_iload_n (i := 1) dX2_readCommands_12 (rfl : 12 + 1 = 13) rfl rfl ?_
    refine k_bipush (v := 11) dX2_readCommands_13 (rfl : 13 + 2 = 15) (by decide) ?_
    refine k_icmp_ge (tgt := 65) dX2_readCommands_15 (rfl : 15 + 3 = 18) (by decide) (fun b15 => ?_) (fun b15 => by exact absurd (nI_le (a := 11) (b := j) (by omega) (by omega)) b15)
    exact hx _ (by rw [rcL]) _
  | succ k ih =>
    intro x j hj ha hr hx
    refine k_iload_n (i := 1) dX2_readCommands_12 (rfl : 12 + 1 = 13) rfl rfl ?_
    refine k_bipush (v := 11) dX2_readCommands_13 (rfl : 13 + 2 = 15) (by decide) ?_
    refine k_icmp_ge (tgt := 65) dX2_readCommands_15 (rfl : 15 + 3 = 18) (by decide) (fun b15 => by exact absurd b15 (nI_ge (a := j) (b := 11) (by omega) (by decide))) (fun b15 => ?_)
    refine k_aload_n (i := 0) dX2_readCommands_18 (rfl : 18 + 1 = 19) rfl rfl ?_
    refine k_iload_n (i := 1) dX2_readCommands_19 (rfl : 19 + 1 = 20) rfl rfl ?_
    refine k_callVd1 cv_X2_35 ⟨Nat.le_of_ble_eq_true rfl, Nat.le_of_ble_eq_true rfl⟩ (m_X2_readCommand ha ⟨j, by omega, rfl⟩) dX2_readCommands_20 (rfl : 20 + 3 = 23) (Nat.le_of_ble_eq_true rfl) rfl rfl rfl ⟨Nat.le_of_ble_eq_true rfl, Nat.le_of_ble_eq_true rfl⟩ ?_
    generalize hg1 : (g_X2_readCommand x (nI j)) = y1
    refine k_if_ne (tgt := 28) dX2_readCommands_23 (rfl : 23 + 3 = 26) (by decide) (fun b23 => ?_) (fun b23 => ?_)
    · refine k_aload_n (i := 0) dX2_readCommands_28 (rfl : 28 + 1 = 29) rfl rfl ?_
      refine k_iload_n (i := 1) dX2_readCommands_29 (rfl : 29 + 1 = 30) rfl rfl ?_
      refine k_iconst (v := 1) dX2_readCommands_30 (rfl : 30 + 1 = 31) (by decide) ?_
      refine k_iadd dX2_readCommands_31 (rfl : 31 + 1 = 32) ?_
      refine k_put 2 3 fp_X2_29 dX2_readCommands_32 (rfl : 32 + 3 = 35) (Nat.le_of_ble_eq_true rfl) rfl (Nat.le_of_ble_eq_true rfl) rfl rfl ?_
      refine kf_C6 (v := ((nI j) + 1)) rfl ?_
      refine k_aload_n (i := 0) dX2_readCommands_35 (rfl : 35 + 1 = 36) rfl rfl ?_
      refine k_get 2 2 fg_X2_32 dX2_readCommands_36 (rfl : 36 + 3 = 39) (Nat.le_of_ble_eq_true rfl) rfl rfl ?_
      refine k_aload_n (i := 0) dX2_readCommands_39 (rfl : 39 + 1 = 40) rfl rfl ?_
      refine k_get 2 1 fg_X2_25 dX2_readCommands_40 (rfl : 40 + 3 = 43) (Nat.le_of_ble_eq_true rfl) rfl rfl ?_
      refine k_icmp_ne (tgt := 48) dX2_readCommands_43 (rfl : 43 + 3 = 46) (by decide) (fun b43 => ?_) (fun b43 => ?_)
      · refine k_aload_n (i := 0) dX2_readCommands_48 (rfl : 48 + 1 = 49) rfl rfl ?_
        refine k_bipush (v := 59) dX2_readCommands_49 (rfl : 49 + 2 = 51) (by decide) ?_
        refine k_callVd1 cv_X2_39 ⟨Nat.le_of_ble_eq_true rfl, Nat.le_of_ble_eq_true rfl⟩ (m_X2_readSign (kAt_S6 (by rw [← hg1]; exact (rc_ok ha (by omega)).1))) dX2_readCommands_51 (rfl : 51 + 3 = 54) (Nat.le_of_ble_eq_true rfl) rfl rfl rfl ⟨Nat.le_of_ble_eq_true rfl, Nat.le_of_ble_eq_true rfl⟩ ?_
        generalize hg2 : (g_X2_readSign (kkS y1 6 ((nI j) + 1)) 59) = y2
        refine k_if_ne (tgt := 59) dX2_readCommands_54 (rfl : 54 + 3 = 57) (by decide) (fun b54 => ?_) (fun b54 => ?_)
        · refine k_iinc (i := 1) (v := (nI (j + 1))) dX2_readCommands_59 (rfl : 59 + 3 = 62) rfl (Nat.le_of_ble_eq_true rfl) (nI_1 _) ?_
          refine k_ls (ls2 := [.ref 109, .int (nI (j + 1))]) rfl ?_
          refine k_goto (tgt := 12) dX2_readCommands_62 (by decide) ?_
          subst hg2
          subst hg1
          exact ih (g_X2_readSign (kkS (g_X2_readCommand x (nI j)) 6 ((nI j) + 1)) 59) (j + 1) (by omega) (rs_at (kAt_S6 (rc_ok ha (by omega)).1)) (fun y e => hr y (by rw [rcL, if_neg (show ¬ ((f_X2_readCommand x (nI j)) = 0) from b23), if_neg (show ¬ (((g_X2_readCommand x (nI j)).2.1 5) = ((g_X2_readCommand x (nI j)).2.1 4)) from b43), if_neg (show ¬ ((f_X2_readSign (kkS (g_X2_readCommand x (nI j)) 6 ((nI j) + 1)) 59) = 0) from b54)]; exact e)) (fun y e => hx y (by rw [rcL, if_neg (show ¬ ((f_X2_readCommand x (nI j)) = 0) from b23), if_neg (show ¬ (((g_X2_readCommand x (nI j)).2.1 5) = ((g_X2_readCommand x (nI j)).2.1 4)) from b43), if_neg (show ¬ ((f_X2_readSign (kkS (g_X2_readCommand x (nI j)) 6 ((nI j) + 1)) 59) = 0) from b54)]; exact e))
        · refine k_iconst (v := 0) dX2_readCommands_57 (rfl : 57 + 1 = 58) (by decide) ?_
          refine k_iret rfl rfl dX2_readCommands_58 (Nat.le_of_ble_eq_true rfl) (Nat.le_of_ble_eq_true rfl) ?_
          subst hg2
          subst hg1
          exact hr _ (by rw [rcL, if_neg (show ¬ ((f_X2_readCommand x (nI j)) = 0) from b23), if_neg (show ¬ (((g_X2_readCommand x (nI j)).2.1 5) = ((g_X2_readCommand x (nI j)).2.1 4)) from b43), if_pos (show (f_X2_readSign (kkS (g_X2_readCommand x (nI j)) 6 ((nI j) + 1)) 59) = 0 from b54)])
      · refine k_iconst (v := 1) dX2_readCommands_46 (rfl : 46 + 1 = 47) (by decide) ?_
        refine k_iret rfl rfl dX2_readCommands_47 (Nat.le_of_ble_eq_true rfl) (Nat.le_of_ble_eq_true rfl) ?_
        subst hg1
        exact hr _ (by rw [rcL, if_neg (show ¬ ((f_X2_readCommand x (nI j)) = 0) from b23), if_pos (show ((g_X2_readCommand x (nI j)).2.1 5) = ((g_X2_readCommand x (nI j)).2.1 4) from b43)])
    · refine k_iconst (v := 0) dX2_readCommands_26 (rfl : 26 + 1 = 27) (by decide) ?_
      refine k_iret rfl rfl dX2_readCommands_27 (Nat.le_of_ble_eq_true rfl) (Nat.le_of_ble_eq_true rfl) ?_
      subst hg1
      exact hr _ (by rw [rcL, if_pos (show (f_X2_readCommand x (nI j)) = 0 from b23)])
theorem rc_st {x : kK} (hl : kTl x) : kAt (kkS (kkS x 5 0) 6 0) := by
  obtain ⟨n, hn, e⟩ := hl
  exact ⟨n, 0, hn, by omega, e, rfl⟩
def f_X2_readCommands (x : kK)  : Int32 := Sum.elim (fun w12 => w12.2) (fun w12 => 0) (rcL 11 (kkS (kkS x 5 0) 6 0) 0)
def g_X2_readCommands (x : kK)  : kK := Sum.elim (fun w12 => w12.1) (fun w12 => w12) (rcL 11 (kkS (kkS x 5 0) 6 0) 0)
set_option maxRecDepth 100000 in
set_option maxHeartbeats 4000000 in
theorem m_X2_readCommands {x : kK} {r : kH} (hl : kTl x) : kMet kX2_readCommands false 0 0 [.ref 109] (kTp (kHc x) r) 130 (kRt (some (.int (f_X2_readCommands x ))) (kTp (kHc (g_X2_readCommands x )) r) 130) := by
  refine kMet.in (by decide) rfl rfl _ rfl ?_
  refine k_aload_n (i := 0) dX2_readCommands_0 (rfl : 0 + 1 = 1) rfl rfl ?_
  refine k_iconst (v := 0) dX2_readCommands_1 (rfl : 1 + 1 = 2) (by decide) ?_
  refine k_put 2 2 fp_X2_32 dX2_readCommands_2 (rfl : 2 + 3 = 5) (Nat.le_of_ble_eq_true rfl) rfl (Nat.le_of_ble_eq_true rfl) rfl rfl ?_
  refine kf_C5 (v := 0) rfl ?_
  refine k_aload_n (i := 0) dX2_readCommands_5 (rfl : 5 + 1 = 6) rfl rfl ?_
  refine k_iconst (v := 0) dX2_readCommands_6 (rfl : 6 + 1 = 7) (by decide) ?_
  refine k_put 2 3 fp_X2_29 dX2_readCommands_7 (rfl : 7 + 3 = 10) (Nat.le_of_ble_eq_true rfl) rfl (Nat.le_of_ble_eq_true rfl) rfl rfl ?_
  refine kf_C6 (v := 0) rfl ?_
  refine k_iconst (v := 0) dX2_readCommands_10 (rfl : 10 + 1 = 11) (by decide) ?_
  refine k_istore_n (i := 1) dX2_readCommands_11 (rfl : 11 + 1 = 12) rfl (Nat.le_of_ble_eq_true rfl) ?_
  refine k_ls (ls2 := [.ref 109, .int 0]) rfl ?_
  refine lrcL 11 (kkS (kkS x 5 0) 6 0) 0 (by omega) (rc_st hl) (fun w12 hw12 => ?_) (fun w12 hw12 z1 => ?_)
  · exact kRt_of (congrArg (fun z => some (Value.int z)) (Eq.symm (congrArg (Sum.elim _ _) hw12))) (congrArg (fun z => kTp (kHc z) r) (Eq.symm (congrArg (Sum.elim _ _) hw12)))
  · refine k_iconst (v := 0) dX2_readCommands_65 (rfl : 65 + 1 = 66) (by decide) ?_
    refine k_iret rfl rfl dX2_readCommands_66 (Nat.le_of_ble_eq_true rfl) (Nat.le_of_ble_eq_true rfl) ?_
    exact kRt_of (congrArg (fun z => some (Value.int z)) (Eq.symm (congrArg (Sum.elim _ _) hw12))) (congrArg (fun z => kTp (kHc z) r) (Eq.symm (congrArg (Sum.elim _ _) hw12)))
/-- what reading all commands leaves -/
def kRc (x : kK) (y : kK) (v : Int32) : Prop := kAt y ∧ y.1 = x.1 ∧ (∀ k, k ≠ 5 → k ≠ 6 → y.2.1 k = x.2.1 k) ∧ (∀ k, k ≠ 6 → y.2.2.1 k = x.2.2.1 k) ∧ (¬ v = 0 → ∃ c, c ≤ 11 ∧ y.2.1 6 = nI c ∧ kCn y c)
theorem rcL_ok {k : Nat} : ∀ {x : kK} {j : Nat}, j + k = 11 → kAt x → kCn x j → Sum.elim (fun y : kK × Int32 => kRc x y.1 y.2) (fun y : kK => kRc x y 0) (rcL k x j) := by
  induction k with
  | zero => intro x j _ ha _; exact ⟨ha, rfl, fun _ _ _ => rfl, fun _ _ => rfl, fun h => absurd rfl h⟩
  | succ k ih =>
    intro x j hj ha hc
    obtain ⟨q1, q2, q3, q4, q5⟩ := rc_ok ha (show j < 11 by omega)
    rw [rcL]
    split
    · exact ⟨q1, q2, fun k h1 _ => q3 k h1, q4, fun h => absurd rfl h⟩
    · rename_i hn
      have q6 := q5 hc hn
      have e6 : ∀ k, k ≠ 5 → k ≠ 6 → (kkS (g_X2_readCommand x (nI j)) 6 (nI j + 1)).2.1 k = x.2.1 k := fun k h1 h2 => (if_neg h2).trans (q3 k h1)
      split
      · exact ⟨kAt_S6 q1, q2, e6, q4, fun _ => ⟨j + 1, by omega, by show upd (g_X2_readCommand x (nI j)).2.1 6 (nI j + 1) 6 = _; rw [pk_us, nI_1], q6⟩⟩
      · split
        · have r1 := rs_rd (x := kkS (g_X2_readCommand x (nI j)) 6 (nI j + 1)) (c := 59)
          exact ⟨rs_at (kAt_S6 q1), r1.1.trans q2, fun k h1 h2 => (r1.2.1 k h1).trans (e6 k h1 h2), fun k h1 => (r1.2.2.1 k h1).trans (q4 k h1), fun h => absurd rfl h⟩
        · have r1 := rs_rd (x := kkS (g_X2_readCommand x (nI j)) 6 (nI j + 1)) (c := 59)
          have hc2 : kCn (g_X2_readSign (kkS (g_X2_readCommand x (nI j)) 6 (nI j + 1)) 59) (j + 1) := by
            intro u hu
            rw [r1.2.2.2]
            exact q6 u hu
          have h := ih (x := g_X2_readSign (kkS (g_X2_readCommand x (nI j)) 6 (nI j + 1)) 59) (j := j + 1) (by omega) (rs_at (kAt_S6 q1)) hc2
          revert h
          generalize rcL k (g_X2_readSign (kkS (g_X2_readCommand x (nI j)) 6 (nI j + 1)) 59) (j + 1) = z
          intro h
          cases z with
          | inl y => exact ⟨h.1, h.2.1.trans (r1.1.trans q2), fun k h1 h2 => (h.2.2.1 k h1 h2).trans ((r1.2.1 k h1).trans (e6 k h1 h2)), fun k h1 => (h.2.2.2.1 k h1).trans ((r1.2.2.1 k h1).trans (q4 k h1)), h.2.2.2.2⟩
          | inr y => exact ⟨h.1, h.2.1.trans (r1.1.trans q2), fun k h1 h2 => (h.2.2.1 k h1 h2).trans ((r1.2.1 k h1).trans (e6 k h1 h2)), fun k h1 => (h.2.2.2.1 k h1).trans ((r1.2.2.1 k h1).trans (q4 k h1)), h.2.2.2.2⟩
theorem rcs_ok {x : kK} (hl : kTl x) : kRc x (g_X2_readCommands x) (f_X2_readCommands x) := by
  have h := rcL_ok (k := 11) (x := kkS (kkS x 5 0) 6 0) (j := 0) (by omega) (rc_st hl) (fun i hi => absurd hi (Nat.not_lt_zero i))
  have e : ∀ k, k ≠ 5 → k ≠ 6 → (kkS (kkS x 5 0) 6 0).2.1 k = x.2.1 k := fun k h1 h2 => (if_neg h2).trans (if_neg h1)
  unfold g_X2_readCommands f_X2_readCommands
  revert h
  generalize rcL 11 (kkS (kkS x 5 0) 6 0) 0 = z
  intro h
  cases z with
  | inl y => exact ⟨h.1, h.2.1, fun k h1 h2 => (h.2.2.1 k h1 h2).trans (e k h1 h2), h.2.2.2.1, h.2.2.2.2⟩
  | inr y => exact ⟨h.1, h.2.1, fun k h1 h2 => (h.2.2.1 k h1 h2).trans (e k h1 h2), h.2.2.2.1, h.2.2.2.2⟩
theorem op_in {a b c : Int32} (hc : ∃ n, n ≤ 11 ∧ c = nI n) (h1 : ¬ a < 0) (h2 : ¬ c ≤ a) (h3 : ¬ b < 0) (h4 : ¬ 3 ≤ b) : vp_in (3 * a + b) 33 := by
  obtain ⟨n, hn, rfl⟩ := hc
  obtain ⟨i, hi, rfl⟩ := nI_of h1
  obtain ⟨k, hk, rfl⟩ := nI_of h3
  have i1 : i < n := by
    rcases Nat.lt_or_ge i n with q | q
    · exact q
    · exact absurd (nI_le (a := n) (b := i) q (by omega)) h2
  have k1 : k < 3 := by
    rcases Nat.lt_or_ge k 3 with q | q
    · exact q
    · exact absurd (nI_le (a := 3) (b := k) q (by omega)) h4
  have h5 : ∀ i, i < 11 → ∀ k, k < 3 → (3 : Int32) * nI i + nI k = nI (3 * i + k) := by decide
  rw [h5 i (by omega) k k1]
  exact vp_in_nI (by omega) (by omega)
/-- the command at a place -/
def kCd (x : kK) (a : Int32) : Nat := (x.2.2.2 (Int32.toNatClampNeg a)).getD 0 - 1010
theorem kCd_of {x : kK} {c i : Nat} (hc : kCn x c) (hi : i < c) (h2 : i < 2 ^ 31) : kCd x (nI i) < 10 ∧ x.2.2.2 (Int32.toNatClampNeg (nI i)) = some (1010 + kCd x (nI i)) := by
  obtain ⟨q, hq, e⟩ := hc i hi
  unfold kCd
  rw [nI_clamp h2, e]
  simp only [Option.getD_some]
  exact ⟨by omega, by rw [Nat.add_sub_cancel_left]⟩
def f_X2_operandAt (x : kK) (a1 : Int32) (a2 : Int32) : Int32 := if a1 < 0 then 0 else (if (x.2.1 6) ≤ a1 then 0 else (if a2 < 0 then 0 else (if 3 ≤ a2 then 0 else ((x.2.2.1 6) (Int32.toNatClampNeg ((3 * a1) + a2))))))
set_option maxRecDepth 100000 in
set_option maxHeartbeats 4000000 in
theorem m_X2_operandAt {x : kK} {r : kH} {a1 : Int32} {a2 : Int32} (hc : ∃ n, n ≤ 11 ∧ x.2.1 6 = nI n) : kMet kX2_operandAt false 0 0 [.ref 109, .int a1, .int a2] (kTp (kHc x) r) 130 (kRt (some (.int (f_X2_operandAt x a1 a2))) (kTp (kHc x) r) 130) := by
  refine kMet.in (by decide) rfl rfl _ rfl ?_
  refine k_iload_n (i := 1) dX2_operandAt_0 (rfl : 0 + 1 = 1) rfl rfl ?_
  refine k_if_lt (tgt := 34) dX2_operandAt_1 (rfl : 1 + 3 = 4) (by decide) (fun b1 => ?_) (fun b1 => ?_)
  · refine k_iconst (v := 0) dX2_operandAt_34 (rfl : 34 + 1 = 35) (by decide) ?_
    refine k_iret rfl rfl dX2_operandAt_35 (Nat.le_of_ble_eq_true rfl) (Nat.le_of_ble_eq_true rfl) ?_
    exact kRt_of (congrArg (fun z => some (Value.int z)) (Eq.symm (if_pos (show a1 < 0 from b1)))) rfl
  · refine k_iload_n (i := 1) dX2_operandAt_4 (rfl : 4 + 1 = 5) rfl rfl ?_
    refine k_aload_n (i := 0) dX2_operandAt_5 (rfl : 5 + 1 = 6) rfl rfl ?_
    refine k_get 2 3 fg_X2_29 dX2_operandAt_6 (rfl : 6 + 3 = 9) (Nat.le_of_ble_eq_true rfl) rfl rfl ?_
    refine k_icmp_ge (tgt := 34) dX2_operandAt_9 (rfl : 9 + 3 = 12) (by decide) (fun b9 => ?_) (fun b9 => ?_)
    · refine k_iconst (v := 0) dX2_operandAt_34 (rfl : 34 + 1 = 35) (by decide) ?_
      refine k_iret rfl rfl dX2_operandAt_35 (Nat.le_of_ble_eq_true rfl) (Nat.le_of_ble_eq_true rfl) ?_
      exact kRt_of (congrArg (fun z => some (Value.int z)) (Eq.symm (Eq.trans (if_neg (show ¬ (a1 < 0) from b1)) (if_pos (show (x.2.1 6) ≤ a1 from b9))))) rfl
    · refine k_iload_n (i := 2) dX2_operandAt_12 (rfl : 12 + 1 = 13) rfl rfl ?_
      refine k_if_lt (tgt := 34) dX2_operandAt_13 (rfl : 13 + 3 = 16) (by decide) (fun b13 => ?_) (fun b13 => ?_)
      · refine k_iconst (v := 0) dX2_operandAt_34 (rfl : 34 + 1 = 35) (by decide) ?_
        refine k_iret rfl rfl dX2_operandAt_35 (Nat.le_of_ble_eq_true rfl) (Nat.le_of_ble_eq_true rfl) ?_
        exact kRt_of (congrArg (fun z => some (Value.int z)) (Eq.symm (Eq.trans (if_neg (show ¬ (a1 < 0) from b1)) (Eq.trans (if_neg (show ¬ ((x.2.1 6) ≤ a1) from b9)) (if_pos (show a2 < 0 from b13)))))) rfl
      · refine k_iload_n (i := 2) dX2_operandAt_16 (rfl : 16 + 1 = 17) rfl rfl ?_
        refine k_iconst (v := 3) dX2_operandAt_17 (rfl : 17 + 1 = 18) (by decide) ?_
        refine k_icmp_ge (tgt := 34) dX2_operandAt_18 (rfl : 18 + 3 = 21) (by decide) (fun b18 => ?_) (fun b18 => ?_)
        · refine k_iconst (v := 0) dX2_operandAt_34 (rfl : 34 + 1 = 35) (by decide) ?_
          refine k_iret rfl rfl dX2_operandAt_35 (Nat.le_of_ble_eq_true rfl) (Nat.le_of_ble_eq_true rfl) ?_
          exact kRt_of (congrArg (fun z => some (Value.int z)) (Eq.symm (Eq.trans (if_neg (show ¬ (a1 < 0) from b1)) (Eq.trans (if_neg (show ¬ ((x.2.1 6) ≤ a1) from b9)) (Eq.trans (if_neg (show ¬ (a2 < 0) from b13)) (if_pos (show 3 ≤ a2 from b18))))))) rfl
        · refine k_aload_n (i := 0) dX2_operandAt_21 (rfl : 21 + 1 = 22) rfl rfl ?_
          refine k_get 2 5 fg_X2_21 dX2_operandAt_22 (rfl : 22 + 3 = 25) (Nat.le_of_ble_eq_true rfl) rfl rfl ?_
          refine k_iconst (v := 3) dX2_operandAt_25 (rfl : 25 + 1 = 26) (by decide) ?_
          refine k_iload_n (i := 1) dX2_operandAt_26 (rfl : 26 + 1 = 27) rfl rfl ?_
          refine k_imul dX2_operandAt_27 (rfl : 27 + 1 = 28) ?_
          refine k_iload_n (i := 2) dX2_operandAt_28 (rfl : 28 + 1 = 29) rfl rfl ?_
          refine k_iadd dX2_operandAt_29 (rfl : 29 + 1 = 30) ?_
          refine k_iald dX2_operandAt_30 (rfl : 30 + 1 = 31) (Nat.le_of_ble_eq_true rfl) rfl (op_in hc b1 b9 b13 b18) ?_
          refine k_goto (tgt := 35) dX2_operandAt_31 (by decide) ?_
          refine k_iret rfl rfl dX2_operandAt_35 (Nat.le_of_ble_eq_true rfl) (Nat.le_of_ble_eq_true rfl) ?_
          exact kRt_of (congrArg (fun z => some (Value.int z)) (Eq.symm (Eq.trans (if_neg (show ¬ (a1 < 0) from b1)) (Eq.trans (if_neg (show ¬ ((x.2.1 6) ≤ a1) from b9)) (Eq.trans (if_neg (show ¬ (a2 < 0) from b13)) (if_neg (show ¬ (3 ≤ a2) from b18))))))) rfl
def f_X2_commandAt (x : kK) (a1 : Int32) : Option Nat := (some (kCd x a1))
set_option maxRecDepth 100000 in
set_option maxHeartbeats 4000000 in
theorem m_X2_commandAt {x : kK} {r : kH} {a1 : Int32} (h1 : vp_in a1 11) (h2 : ¬ a1 < 0) (h3 : ¬ x.2.1 6 ≤ a1) (he : x.2.2.2 (Int32.toNatClampNeg a1) = some (1010 + kCd x a1)) : kMet kX2_commandAt false 0 0 [.ref 109, .int a1] (kTp (kHc x) r) 130 (kRt (some (kOp (f_X2_commandAt x a1))) (kTp (kHc x) r) 130) := by
  refine kMet.in (by decide) rfl rfl _ rfl ?_
  refine k_iload_n (i := 1) dX2_commandAt_0 (rfl : 0 + 1 = 1) rfl rfl ?_
  refine k_if_lt (tgt := 21) dX2_commandAt_1 (rfl : 1 + 3 = 4) (by decide) (fun b1 => by exact absurd b1 h2) (fun b1 => ?_)
  refine k_iload_n (i := 1) dX2_commandAt_4 (rfl : 4 + 1 = 5) rfl rfl ?_
  refine k_aload_n (i := 0) dX2_commandAt_5 (rfl : 5 + 1 = 6) rfl rfl ?_
  refine k_get 2 3 fg_X2_29 dX2_commandAt_6 (rfl : 6 + 3 = 9) (Nat.le_of_ble_eq_true rfl) rfl rfl ?_
  refine k_icmp_ge (tgt := 21) dX2_commandAt_9 (rfl : 9 + 3 = 12) (by decide) (fun b9 => by exact absurd b9 h3) (fun b9 => ?_)
  refine k_aload_n (i := 0) dX2_commandAt_12 (rfl : 12 + 1 = 13) rfl rfl ?_
  refine k_get 2 4 fg_X2_17 dX2_commandAt_13 (rfl : 13 + 3 = 16) (Nat.le_of_ble_eq_true rfl) rfl rfl ?_
  refine k_iload_n (i := 1) dX2_commandAt_16 (rfl : 16 + 1 = 17) rfl rfl ?_
  refine k_rald (a := 1010 + kCd x a1) (Or.inr rfl) dX2_commandAt_17 (rfl : 17 + 1 = 18) (Nat.le_of_ble_eq_true rfl) rfl h1 he ?_
  refine k_goto (tgt := 22) dX2_commandAt_18 (by decide) ?_
  refine k_aret rfl (Or.inl ⟨_, rfl⟩) dX2_commandAt_22 (Nat.le_of_ble_eq_true rfl) (Nat.le_of_ble_eq_true rfl) ?_
  exact kRt_of rfl rfl
