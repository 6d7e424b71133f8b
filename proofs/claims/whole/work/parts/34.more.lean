theorem put_core {x : kK} {c : Int32} : (g_X8_put x c).1 = x.1 := by unfold g_X8_put; split <;> rfl
theorem pnL_core {a : Int32} {k : Nat} : ∀ {x : kK} {j : Nat} {f : Int32}, (pnL a k x j f).1 = x.1 := by
  induction k with
  | zero => intro x j f; rfl
  | succ k ih =>
    intro x j f
    rw [pnL]
    repeat' split
    all_goals first
      | exact ih
      | exact ih.trans put_core
theorem ln_0 {x : kK} : kLn (kkS x 7 0) := ⟨0, by omega, rfl⟩
def drL (a : Int32) : Nat → kK → Nat → kK
  | 0, x, j => x
  | k + 1, x, j => (drL a k (g_X8_put x (f_X10_signOf x (f_X11_cellAt (nI j) a))) (j + 1))
set_option maxRecDepth 100000 in
set_option maxHeartbeats 4000000 in
theorem ldrL {r : kH} {Q : kQ} {a : Int32}  : ∀ (k : Nat) (x : kK) (j : Nat), j + k = 8 → kIv (x.1 0) → kLn x → (∀ (z2 : Value), kEv kX11_describeRow (kRm kX11_describeRow 0 0) (kFm false 0 0 (Q)) false 63 [.ref 0, .int a, z2] [] (kTp (kHc (drL a k x j)) r) 130 0 0) → kEv kX11_describeRow (kRm kX11_describeRow 0 0) (kFm false 0 0 (Q)) false 29 [.ref 0, .int a, .int (nI j)] [] (kTp (kHc x) r) 130 0 0 := by
  intro k
  induction k with
  | zero =>
    intro x j hj iv hl hx
    refine k_iload_n (i := 2) dX11_describeRow_29 (rfl : 29 + 1 = 30) rfl rfl ?_
    refine k_bipush (v := 8) dX11_describeRow_30 (rfl : 30 + 2 = 32) (by decide) ?_
    refine k_icmp_ge (tgt := 63) dX11_describeRow_32 (rfl : 32 + 3 = 35) (by decide) (fun b32 => ?_) (fun b32 => by exact absurd (nI_le (a := 8) (b := j) (by omega) (by omega)) b32)
    rw [drL] at hx
    exact hx _
  | succ k ih =>
    intro x j hj iv hl hx
    refine k_iload_n (i := 2) dX11_describeRow_29 (rfl : 29 + 1 = 30) rfl rfl ?_
    refine k_bipush (v := 8) dX11_describeRow_30 (rfl : 30 + 2 = 32) (by decide) ?_
    refine k_icmp_ge (tgt := 63) dX11_describeRow_32 (rfl : 32 + 3 = 35) (by decide) (fun b32 => by exact absurd b32 (nI_ge (a := j) (b := 8) (by omega) (by decide))) (fun b32 => ?_)
    refine k_aload_n (i := 0) dX11_describeRow_35 (rfl : 35 + 1 = 36) rfl rfl ?_
    refine k_get 11 7 fg_X11_53 dX11_describeRow_36 (rfl : 36 + 3 = 39) (Nat.le_of_ble_eq_true rfl) rfl rfl ?_
    refine k_aload_n (i := 0) dX11_describeRow_39 (rfl : 39 + 1 = 40) rfl rfl ?_
    refine k_get 11 0 fg_X11_12 dX11_describeRow_40 (rfl : 40 + 3 = 43) (Nat.le_of_ble_eq_true rfl) rfl rfl ?_
    refine k_get 9 0 fg_X11_100 dX11_describeRow_43 (rfl : 43 + 3 = 46) (Nat.le_of_ble_eq_true rfl) rfl rfl ?_
    refine k_iload_n (i := 2) dX11_describeRow_46 (rfl : 46 + 1 = 47) rfl rfl ?_
    refine k_iload_n (i := 1) dX11_describeRow_47 (rfl : 47 + 1 = 48) rfl rfl ?_
    refine k_callSd2 cv_X11_121 ⟨Nat.le_of_ble_eq_true rfl, Nat.le_of_ble_eq_true rfl⟩ (m_X11_cellAt) dX11_describeRow_48 (rfl : 48 + 3 = 51) rfl ⟨Nat.le_of_ble_eq_true rfl, Nat.le_of_ble_eq_true rfl⟩ ?_
    refine k_callVd1 cv_X11_385 ⟨Nat.le_of_ble_eq_true rfl, Nat.le_of_ble_eq_true rfl⟩ (m_X10_signOf iv) dX11_describeRow_51 (rfl : 51 + 3 = 54) (Nat.le_of_ble_eq_true rfl) rfl rfl rfl ⟨Nat.le_of_ble_eq_true rfl, Nat.le_of_ble_eq_true rfl⟩ ?_
    refine k_callVv1 cv_X11_389 ⟨Nat.le_of_ble_eq_true rfl, Nat.le_of_ble_eq_true rfl⟩ (m_X8_put hl) dX11_describeRow_54 (rfl : 54 + 3 = 57) (Nat.le_of_ble_eq_true rfl) rfl rfl rfl ⟨Nat.le_of_ble_eq_true rfl, Nat.le_of_ble_eq_true rfl⟩ ?_
    refine k_iinc (i := 2) (v := (nI (j + 1))) dX11_describeRow_57 (rfl : 57 + 3 = 60) rfl (Nat.le_of_ble_eq_true rfl) (nI_1 _) ?_
    refine k_ls (ls2 := [.ref 0, .int a, .int (nI (j + 1))]) rfl ?_
    refine k_goto (tgt := 29) dX11_describeRow_60 (by decide) ?_
    rw [drL] at hx
    exact ih (g_X8_put x (f_X10_signOf x (f_X11_cellAt (nI j) a))) (j + 1) (by omega) (by rw [put_core]; exact iv) (put_ln hl) hx
set_option maxRecDepth 100000 in
set_option maxHeartbeats 4000000 in
theorem ldrL_t {r : kH} {Q : kQ} {a : Int32}  : ∀ (k : Nat) (x : kK) (j : Nat), j + k = 8 → kIv (x.1 0) → kLn x → (∀ (z2 : Value), kEv kX11_describeRow (kRm kX11_describeRow 1 6) (kFm false 1 6 (Q)) false 63 [.ref 0, .int a, z2] [] (kTp (kHc (drL a k x j)) r) 130 0 0) → kEv kX11_describeRow (kRm kX11_describeRow 1 6) (kFm false 1 6 (Q)) false 29 [.ref 0, .int a, .int (nI j)] [] (kTp (kHc x) r) 130 0 0 := by
  intro k
  induction k with
  | zero =>
    intro x j hj iv hl hx
    refine k_iload_n (i := 2) dX11_describeRow_29 (rfl : 29 + 1 = 30) rfl rfl ?_
    refine k_bipush (v := 8) dX11_describeRow_30 (rfl : 30 + 2 = 32) (by decide) ?_
    refine k_icmp_ge (tgt := 63) dX11_describeRow_32 (rfl : 32 + 3 = 35) (by decide) (fun b32 => ?_) (fun b32 => by exact absurd (nI_le (a := 8) (b := j) (by omega) (by omega)) b32)
    rw [drL] at hx
    exact hx _
  | succ k ih =>
    intro x j hj iv hl hx
    refine k_iload_n (i := 2) dX11_describeRow_29 (rfl : 29 + 1 = 30) rfl rfl ?_
    refine k_bipush (v := 8) dX11_describeRow_30 (rfl : 30 + 2 = 32) (by decide) ?_
    refine k_icmp_ge (tgt := 63) dX11_describeRow_32 (rfl : 32 + 3 = 35) (by decide) (fun b32 => by exact absurd b32 (nI_ge (a := j) (b := 8) (by omega) (by decide))) (fun b32 => ?_)
    refine k_aload_n (i := 0) dX11_describeRow_35 (rfl : 35 + 1 = 36) rfl rfl ?_
    refine k_get 11 7 fg_X11_53 dX11_describeRow_36 (rfl : 36 + 3 = 39) (Nat.le_of_ble_eq_true rfl) rfl rfl ?_
    refine k_aload_n (i := 0) dX11_describeRow_39 (rfl : 39 + 1 = 40) rfl rfl ?_
    refine k_get 11 0 fg_X11_12 dX11_describeRow_40 (rfl : 40 + 3 = 43) (Nat.le_of_ble_eq_true rfl) rfl rfl ?_
    refine k_get 9 0 fg_X11_100 dX11_describeRow_43 (rfl : 43 + 3 = 46) (Nat.le_of_ble_eq_true rfl) rfl rfl ?_
    refine k_iload_n (i := 2) dX11_describeRow_46 (rfl : 46 + 1 = 47) rfl rfl ?_
    refine k_iload_n (i := 1) dX11_describeRow_47 (rfl : 47 + 1 = 48) rfl rfl ?_
    refine k_callSd2 cv_X11_121 ⟨Nat.le_of_ble_eq_true rfl, Nat.le_of_ble_eq_true rfl⟩ (m_X11_cellAt) dX11_describeRow_48 (rfl : 48 + 3 = 51) rfl ⟨Nat.le_of_ble_eq_true rfl, Nat.le_of_ble_eq_true rfl⟩ ?_
    refine k_callVd1 cv_X11_385 ⟨Nat.le_of_ble_eq_true rfl, Nat.le_of_ble_eq_true rfl⟩ (m_X10_signOf iv) dX11_describeRow_51 (rfl : 51 + 3 = 54) (Nat.le_of_ble_eq_true rfl) rfl rfl rfl ⟨Nat.le_of_ble_eq_true rfl, Nat.le_of_ble_eq_true rfl⟩ ?_
    refine k_callVv1 cv_X11_389 ⟨Nat.le_of_ble_eq_true rfl, Nat.le_of_ble_eq_true rfl⟩ (m_X8_put hl) dX11_describeRow_54 (rfl : 54 + 3 = 57) (Nat.le_of_ble_eq_true rfl) rfl rfl rfl ⟨Nat.le_of_ble_eq_true rfl, Nat.le_of_ble_eq_true rfl⟩ ?_
    refine k_iinc (i := 2) (v := (nI (j + 1))) dX11_describeRow_57 (rfl : 57 + 3 = 60) rfl (Nat.le_of_ble_eq_true rfl) (nI_1 _) ?_
    refine k_ls (ls2 := [.ref 0, .int a, .int (nI (j + 1))]) rfl ?_
    refine k_goto (tgt := 29) dX11_describeRow_60 (by decide) ?_
    rw [drL] at hx
    exact ih (g_X8_put x (f_X10_signOf x (f_X11_cellAt (nI j) a))) (j + 1) (by omega) (by rw [put_core]; exact iv) (put_ln hl) hx
def o_X11_describeRow (x : kK) (a1 : Int32) : kOut := if (f_X11_isCell 0 a1) = 0 then (.inr "java/lang/IndexOutOfBoundsException") else (.inl (some (.int ((drL a1 8 (kkS x 7 0) 0).2.1 7))))
def g_X11_describeRow (x : kK) (a1 : Int32) : kK := if (f_X11_isCell 0 a1) = 0 then x else (drL a1 8 (kkS x 7 0) 0)
set_option maxRecDepth 100000 in
set_option maxHeartbeats 4000000 in
theorem m_X11_describeRow {x : kK} {r : kH} {a1 : Int32} (iv : kIv (x.1 0)) : kMet kX11_describeRow false 1 6 [.ref 0, .int a1] (kTp (kHc x) r) 130 (kRo (o_X11_describeRow x a1) (kTp (kHc (g_X11_describeRow x a1)) r) 130) := by
  refine kMet.in (by decide) rfl rfl _ rfl ?_
  refine k_iconst (v := 0) dX11_describeRow_0 (rfl : 0 + 1 = 1) (by decide) ?_
  refine k_iload_n (i := 1) dX11_describeRow_1 (rfl : 1 + 1 = 2) rfl rfl ?_
  refine k_callSd2 cv_X11_117 ⟨Nat.le_of_ble_eq_true rfl, Nat.le_of_ble_eq_true rfl⟩ (m_X11_isCell) dX11_describeRow_2 (rfl : 2 + 3 = 5) rfl ⟨Nat.le_of_ble_eq_true rfl, Nat.le_of_ble_eq_true rfl⟩ ?_
  refine k_if_ne (tgt := 19) dX11_describeRow_5 (rfl : 5 + 3 = 8) (by decide) (fun b5 => ?_) (fun b5 => ?_)
  · refine k_aload_n (i := 0) dX11_describeRow_19 (rfl : 19 + 1 = 20) rfl rfl ?_
    refine k_get 11 7 fg_X11_53 dX11_describeRow_20 (rfl : 20 + 3 = 23) (Nat.le_of_ble_eq_true rfl) rfl rfl ?_
    refine k_iconst (v := 0) dX11_describeRow_23 (rfl : 23 + 1 = 24) (by decide) ?_
    refine k_put 8 1 fp_X11_384 dX11_describeRow_24 (rfl : 24 + 3 = 27) (Nat.le_of_ble_eq_true rfl) rfl (Nat.le_of_ble_eq_true rfl) rfl rfl ?_
    refine kf_C7 (v := 0) rfl ?_
    refine k_iconst (v := 0) dX11_describeRow_27 (rfl : 27 + 1 = 28) (by decide) ?_
    refine k_istore_n (i := 2) dX11_describeRow_28 (rfl : 28 + 1 = 29) rfl (Nat.le_of_ble_eq_true rfl) ?_
    refine k_ls (ls2 := [.ref 0, .int a1, .int 0]) rfl ?_
    refine ldrL_t (a := a1) 8 (kkS x 7 0) 0 (by omega) iv ln_0 (fun z2 => ?_)
    generalize hw29 : (drL a1 8 (kkS x 7 0) 0) = w29
    refine k_aload_n (i := 0) dX11_describeRow_63 (rfl : 63 + 1 = 64) rfl rfl ?_
    refine k_get 11 7 fg_X11_53 dX11_describeRow_64 (rfl : 64 + 3 = 67) (Nat.le_of_ble_eq_true rfl) rfl rfl ?_
    refine k_get 8 1 fg_X11_384 dX11_describeRow_67 (rfl : 67 + 3 = 70) (Nat.le_of_ble_eq_true rfl) rfl rfl ?_
    refine k_iret rfl rfl dX11_describeRow_70 (Nat.le_of_ble_eq_true rfl) (Nat.le_of_ble_eq_true rfl) ?_
    subst hw29
    exact kRo_of (Eq.symm (if_neg (show ¬ ((f_X11_isCell 0 a1) = 0) from b5))) (congrArg (fun z => kTp (kHc z) r) (Eq.symm (if_neg (show ¬ ((f_X11_isCell 0 a1) = 0) from b5))))
  · refine k_throwW th_X11_72_76 tx_X11_382 rfl dX11_describeRow_8 dX11_describeRow_11 dX11_describeRow_12 dX11_describeRow_15 dX11_describeRow_18 (Nat.le_of_ble_eq_true rfl) (Nat.le_of_ble_eq_true rfl) ⟨(Nat.le_of_ble_eq_true rfl), (Nat.le_of_ble_eq_true rfl)⟩ (Nat.le_of_ble_eq_true rfl) (Nat.le_of_ble_eq_true rfl) ?_
    exact kRo_of (Eq.symm (if_pos (show (f_X11_isCell 0 a1) = 0 from b5))) (congrArg (fun z => kTp (kHc z) r) (Eq.symm (if_pos (show (f_X11_isCell 0 a1) = 0 from b5))))
def o_X11_describePlea (x : kK) (a1 : Int32) : kOut := if (f_X3_hasPlea x a1) = 0 then (.inr "java/lang/IndexOutOfBoundsException") else (if (f_X3_canBeHeard (pnL (f_X3_lastHour (g_X8_put (pnL ((((g_X8_put (pnL ((((g_X8_put (kkS x 7 0) 112).1 0).2.2 1) (Int32.toNatClampNeg a1)) 10 (g_X8_put (kkS x 7 0) 112) 0 0) 58).1 0).2.2 2) (Int32.toNatClampNeg a1)) 10 (g_X8_put (pnL ((((g_X8_put (kkS x 7 0) 112).1 0).2.2 1) (Int32.toNatClampNeg a1)) 10 (g_X8_put (kkS x 7 0) 112) 0 0) 58) 0 0) 45) a1) 10 (g_X8_put (pnL ((((g_X8_put (pnL ((((g_X8_put (kkS x 7 0) 112).1 0).2.2 1) (Int32.toNatClampNeg a1)) 10 (g_X8_put (kkS x 7 0) 112) 0 0) 58).1 0).2.2 2) (Int32.toNatClampNeg a1)) 10 (g_X8_put (pnL ((((g_X8_put (kkS x 7 0) 112).1 0).2.2 1) (Int32.toNatClampNeg a1)) 10 (g_X8_put (kkS x 7 0) 112) 0 0) 58) 0 0) 45) 0 0) a1 (((pnL (f_X3_lastHour (g_X8_put (pnL ((((g_X8_put (pnL ((((g_X8_put (kkS x 7 0) 112).1 0).2.2 1) (Int32.toNatClampNeg a1)) 10 (g_X8_put (kkS x 7 0) 112) 0 0) 58).1 0).2.2 2) (Int32.toNatClampNeg a1)) 10 (g_X8_put (pnL ((((g_X8_put (kkS x 7 0) 112).1 0).2.2 1) (Int32.toNatClampNeg a1)) 10 (g_X8_put (kkS x 7 0) 112) 0 0) 58) 0 0) 45) a1) 10 (g_X8_put (pnL ((((g_X8_put (pnL ((((g_X8_put (kkS x 7 0) 112).1 0).2.2 1) (Int32.toNatClampNeg a1)) 10 (g_X8_put (kkS x 7 0) 112) 0 0) 58).1 0).2.2 2) (Int32.toNatClampNeg a1)) 10 (g_X8_put (pnL ((((g_X8_put (kkS x 7 0) 112).1 0).2.2 1) (Int32.toNatClampNeg a1)) 10 (g_X8_put (kkS x 7 0) 112) 0 0) 58) 0 0) 45) 0 0).1 0).2.1 4)) = 0 then (.inl (some (.int ((pnL (f_X3_lastHour (g_X8_put (pnL ((((g_X8_put (pnL ((((g_X8_put (kkS x 7 0) 112).1 0).2.2 1) (Int32.toNatClampNeg a1)) 10 (g_X8_put (kkS x 7 0) 112) 0 0) 58).1 0).2.2 2) (Int32.toNatClampNeg a1)) 10 (g_X8_put (pnL ((((g_X8_put (kkS x 7 0) 112).1 0).2.2 1) (Int32.toNatClampNeg a1)) 10 (g_X8_put (kkS x 7 0) 112) 0 0) 58) 0 0) 45) a1) 10 (g_X8_put (pnL ((((g_X8_put (pnL ((((g_X8_put (kkS x 7 0) 112).1 0).2.2 1) (Int32.toNatClampNeg a1)) 10 (g_X8_put (kkS x 7 0) 112) 0 0) 58).1 0).2.2 2) (Int32.toNatClampNeg a1)) 10 (g_X8_put (pnL ((((g_X8_put (kkS x 7 0) 112).1 0).2.2 1) (Int32.toNatClampNeg a1)) 10 (g_X8_put (kkS x 7 0) 112) 0 0) 58) 0 0) 45) 0 0).2.1 7)))) else (.inl (some (.int ((g_X8_put (pnL (f_X3_lastHour (g_X8_put (pnL ((((g_X8_put (pnL ((((g_X8_put (kkS x 7 0) 112).1 0).2.2 1) (Int32.toNatClampNeg a1)) 10 (g_X8_put (kkS x 7 0) 112) 0 0) 58).1 0).2.2 2) (Int32.toNatClampNeg a1)) 10 (g_X8_put (pnL ((((g_X8_put (kkS x 7 0) 112).1 0).2.2 1) (Int32.toNatClampNeg a1)) 10 (g_X8_put (kkS x 7 0) 112) 0 0) 58) 0 0) 45) a1) 10 (g_X8_put (pnL ((((g_X8_put (pnL ((((g_X8_put (kkS x 7 0) 112).1 0).2.2 1) (Int32.toNatClampNeg a1)) 10 (g_X8_put (kkS x 7 0) 112) 0 0) 58).1 0).2.2 2) (Int32.toNatClampNeg a1)) 10 (g_X8_put (pnL ((((g_X8_put (kkS x 7 0) 112).1 0).2.2 1) (Int32.toNatClampNeg a1)) 10 (g_X8_put (kkS x 7 0) 112) 0 0) 58) 0 0) 45) 0 0) 42).2.1 7)))))
def g_X11_describePlea (x : kK) (a1 : Int32) : kK := if (f_X3_hasPlea x a1) = 0 then x else (if (f_X3_canBeHeard (pnL (f_X3_lastHour (g_X8_put (pnL ((((g_X8_put (pnL ((((g_X8_put (kkS x 7 0) 112).1 0).2.2 1) (Int32.toNatClampNeg a1)) 10 (g_X8_put (kkS x 7 0) 112) 0 0) 58).1 0).2.2 2) (Int32.toNatClampNeg a1)) 10 (g_X8_put (pnL ((((g_X8_put (kkS x 7 0) 112).1 0).2.2 1) (Int32.toNatClampNeg a1)) 10 (g_X8_put (kkS x 7 0) 112) 0 0) 58) 0 0) 45) a1) 10 (g_X8_put (pnL ((((g_X8_put (pnL ((((g_X8_put (kkS x 7 0) 112).1 0).2.2 1) (Int32.toNatClampNeg a1)) 10 (g_X8_put (kkS x 7 0) 112) 0 0) 58).1 0).2.2 2) (Int32.toNatClampNeg a1)) 10 (g_X8_put (pnL ((((g_X8_put (kkS x 7 0) 112).1 0).2.2 1) (Int32.toNatClampNeg a1)) 10 (g_X8_put (kkS x 7 0) 112) 0 0) 58) 0 0) 45) 0 0) a1 (((pnL (f_X3_lastHour (g_X8_put (pnL ((((g_X8_put (pnL ((((g_X8_put (kkS x 7 0) 112).1 0).2.2 1) (Int32.toNatClampNeg a1)) 10 (g_X8_put (kkS x 7 0) 112) 0 0) 58).1 0).2.2 2) (Int32.toNatClampNeg a1)) 10 (g_X8_put (pnL ((((g_X8_put (kkS x 7 0) 112).1 0).2.2 1) (Int32.toNatClampNeg a1)) 10 (g_X8_put (kkS x 7 0) 112) 0 0) 58) 0 0) 45) a1) 10 (g_X8_put (pnL ((((g_X8_put (pnL ((((g_X8_put (kkS x 7 0) 112).1 0).2.2 1) (Int32.toNatClampNeg a1)) 10 (g_X8_put (kkS x 7 0) 112) 0 0) 58).1 0).2.2 2) (Int32.toNatClampNeg a1)) 10 (g_X8_put (pnL ((((g_X8_put (kkS x 7 0) 112).1 0).2.2 1) (Int32.toNatClampNeg a1)) 10 (g_X8_put (kkS x 7 0) 112) 0 0) 58) 0 0) 45) 0 0).1 0).2.1 4)) = 0 then (pnL (f_X3_lastHour (g_X8_put (pnL ((((g_X8_put (pnL ((((g_X8_put (kkS x 7 0) 112).1 0).2.2 1) (Int32.toNatClampNeg a1)) 10 (g_X8_put (kkS x 7 0) 112) 0 0) 58).1 0).2.2 2) (Int32.toNatClampNeg a1)) 10 (g_X8_put (pnL ((((g_X8_put (kkS x 7 0) 112).1 0).2.2 1) (Int32.toNatClampNeg a1)) 10 (g_X8_put (kkS x 7 0) 112) 0 0) 58) 0 0) 45) a1) 10 (g_X8_put (pnL ((((g_X8_put (pnL ((((g_X8_put (kkS x 7 0) 112).1 0).2.2 1) (Int32.toNatClampNeg a1)) 10 (g_X8_put (kkS x 7 0) 112) 0 0) 58).1 0).2.2 2) (Int32.toNatClampNeg a1)) 10 (g_X8_put (pnL ((((g_X8_put (kkS x 7 0) 112).1 0).2.2 1) (Int32.toNatClampNeg a1)) 10 (g_X8_put (kkS x 7 0) 112) 0 0) 58) 0 0) 45) 0 0) else (g_X8_put (pnL (f_X3_lastHour (g_X8_put (pnL ((((g_X8_put (pnL ((((g_X8_put (kkS x 7 0) 112).1 0).2.2 1) (Int32.toNatClampNeg a1)) 10 (g_X8_put (kkS x 7 0) 112) 0 0) 58).1 0).2.2 2) (Int32.toNatClampNeg a1)) 10 (g_X8_put (pnL ((((g_X8_put (kkS x 7 0) 112).1 0).2.2 1) (Int32.toNatClampNeg a1)) 10 (g_X8_put (kkS x 7 0) 112) 0 0) 58) 0 0) 45) a1) 10 (g_X8_put (pnL ((((g_X8_put (pnL ((((g_X8_put (kkS x 7 0) 112).1 0).2.2 1) (Int32.toNatClampNeg a1)) 10 (g_X8_put (kkS x 7 0) 112) 0 0) 58).1 0).2.2 2) (Int32.toNatClampNeg a1)) 10 (g_X8_put (pnL ((((g_X8_put (kkS x 7 0) 112).1 0).2.2 1) (Int32.toNatClampNeg a1)) 10 (g_X8_put (kkS x 7 0) 112) 0 0) 58) 0 0) 45) 0 0) 42))
set_option maxRecDepth 100000 in
set_option maxHeartbeats 4000000 in
theorem m_X11_describePlea {x : kK} {r : kH} {a1 : Int32} (iv : kIv (x.1 0)) : kMet kX11_describePlea false 1 6 [.ref 0, .int a1] (kTp (kHc x) r) 130 (kRo (o_X11_describePlea x a1) (kTp (kHc (g_X11_describePlea x a1)) r) 130) := by
  refine kMet.in (by decide) rfl rfl _ rfl ?_
  refine k_aload_n (i := 0) dX11_describePlea_0 (rfl : 0 + 1 = 1) rfl rfl ?_
  refine k_get 11 0 fg_X11_12 dX11_describePlea_1 (rfl : 1 + 3 = 4) (Nat.le_of_ble_eq_true rfl) rfl rfl ?_
  refine k_get 9 1 fg_X11_260 dX11_describePlea_4 (rfl : 4 + 3 = 7) (Nat.le_of_ble_eq_true rfl) rfl rfl ?_
  refine k_astore_n (i := 2) dX11_describePlea_7 (rfl : 7 + 1 = 8) rfl (Nat.le_of_ble_eq_true rfl) ?_
  refine k_ls (ls2 := [.ref 0, .int a1, .ref 4]) rfl ?_
  refine k_aload_n (i := 2) dX11_describePlea_8 (rfl : 8 + 1 = 9) rfl rfl ?_
  refine k_iload_n (i := 1) dX11_describePlea_9 (rfl : 9 + 1 = 10) rfl rfl ?_
  refine k_callVd1 cv_X11_275 ⟨Nat.le_of_ble_eq_true rfl, Nat.le_of_ble_eq_true rfl⟩ (m_X3_hasPlea) dX11_describePlea_10 (rfl : 10 + 3 = 13) (Nat.le_of_ble_eq_true rfl) rfl rfl rfl ⟨Nat.le_of_ble_eq_true rfl, Nat.le_of_ble_eq_true rfl⟩ ?_
  refine k_if_ne (tgt := 27) dX11_describePlea_13 (rfl : 13 + 3 = 16) (by decide) (fun b13 => ?_) (fun b13 => ?_)
  · refine k_aload_n (i := 0) dX11_describePlea_27 (rfl : 27 + 1 = 28) rfl rfl ?_
    refine k_get 11 7 fg_X11_53 dX11_describePlea_28 (rfl : 28 + 3 = 31) (Nat.le_of_ble_eq_true rfl) rfl rfl ?_
    refine k_iconst (v := 0) dX11_describePlea_31 (rfl : 31 + 1 = 32) (by decide) ?_
    refine k_put 8 1 fp_X11_384 dX11_describePlea_32 (rfl : 32 + 3 = 35) (Nat.le_of_ble_eq_true rfl) rfl (Nat.le_of_ble_eq_true rfl) rfl rfl ?_
    refine kf_C7 (v := 0) rfl ?_
    refine k_aload_n (i := 0) dX11_describePlea_35 (rfl : 35 + 1 = 36) rfl rfl ?_
    refine k_get 11 7 fg_X11_53 dX11_describePlea_36 (rfl : 36 + 3 = 39) (Nat.le_of_ble_eq_true rfl) rfl rfl ?_
    refine k_bipush (v := 112) dX11_describePlea_39 (rfl : 39 + 2 = 41) (by decide) ?_
    refine k_callVv1 cv_X11_389 ⟨Nat.le_of_ble_eq_true rfl, Nat.le_of_ble_eq_true rfl⟩ (m_X8_put ln_0) dX11_describePlea_41 (rfl : 41 + 3 = 44) (Nat.le_of_ble_eq_true rfl) rfl rfl rfl ⟨Nat.le_of_ble_eq_true rfl, Nat.le_of_ble_eq_true rfl⟩ ?_
    generalize hg1 : (g_X8_put (kkS x 7 0) 112) = y1
    have ly1 : kLn y1 := by rw [← hg1]; exact put_ln ln_0
    refine k_aload_n (i := 0) dX11_describePlea_44 (rfl : 44 + 1 = 45) rfl rfl ?_
    refine k_get 11 7 fg_X11_53 dX11_describePlea_45 (rfl : 45 + 3 = 48) (Nat.le_of_ble_eq_true rfl) rfl rfl ?_
    refine k_aload_n (i := 2) dX11_describePlea_48 (rfl : 48 + 1 = 49) rfl rfl ?_
    refine k_get 3 3 fg_X11_280 dX11_describePlea_49 (rfl : 49 + 3 = 52) (Nat.le_of_ble_eq_true rfl) rfl rfl ?_
    refine k_iload_n (i := 1) dX11_describePlea_52 (rfl : 52 + 1 = 53) rfl rfl ?_
    refine k_iald dX11_describePlea_53 (rfl : 53 + 1 = 54) (Nat.le_of_ble_eq_true rfl) rfl (kIv_pc iv b13) ?_
    refine k_callVv1 cv_X11_390 ⟨Nat.le_of_ble_eq_true rfl, Nat.le_of_ble_eq_true rfl⟩ (m_X8_putNumber ly1) dX11_describePlea_54 (rfl : 54 + 3 = 57) (Nat.le_of_ble_eq_true rfl) rfl rfl rfl ⟨Nat.le_of_ble_eq_true rfl, Nat.le_of_ble_eq_true rfl⟩ ?_
    generalize hg2 : (pnL (((y1.1 0).2.2 1) (Int32.toNatClampNeg a1)) 10 y1 0 0) = y2
    have ly2 : kLn y2 := by rw [← hg2]; exact pnL_ln ly1
    refine k_aload_n (i := 0) dX11_describePlea_57 (rfl : 57 + 1 = 58) rfl rfl ?_
    refine k_get 11 7 fg_X11_53 dX11_describePlea_58 (rfl : 58 + 3 = 61) (Nat.le_of_ble_eq_true rfl) rfl rfl ?_
    refine k_bipush (v := 58) dX11_describePlea_61 (rfl : 61 + 2 = 63) (by decide) ?_
    refine k_callVv1 cv_X11_389 ⟨Nat.le_of_ble_eq_true rfl, Nat.le_of_ble_eq_true rfl⟩ (m_X8_put ly2) dX11_describePlea_63 (rfl : 63 + 3 = 66) (Nat.le_of_ble_eq_true rfl) rfl rfl rfl ⟨Nat.le_of_ble_eq_true rfl, Nat.le_of_ble_eq_true rfl⟩ ?_
    generalize hg3 : (g_X8_put y2 58) = y3
    have ly3 : kLn y3 := by rw [← hg3]; exact put_ln ly2
    refine k_aload_n (i := 0) dX11_describePlea_66 (rfl : 66 + 1 = 67) rfl rfl ?_
    refine k_get 11 7 fg_X11_53 dX11_describePlea_67 (rfl : 67 + 3 = 70) (Nat.le_of_ble_eq_true rfl) rfl rfl ?_
    refine k_aload_n (i := 2) dX11_describePlea_70 (rfl : 70 + 1 = 71) rfl rfl ?_
    refine k_get 3 4 fg_X11_282 dX11_describePlea_71 (rfl : 71 + 3 = 74) (Nat.le_of_ble_eq_true rfl) rfl rfl ?_
    refine k_iload_n (i := 1) dX11_describePlea_74 (rfl : 74 + 1 = 75) rfl rfl ?_
    refine k_iald dX11_describePlea_75 (rfl : 75 + 1 = 76) (Nat.le_of_ble_eq_true rfl) rfl (kIv_pc iv b13) ?_
    refine k_callVv1 cv_X11_390 ⟨Nat.le_of_ble_eq_true rfl, Nat.le_of_ble_eq_true rfl⟩ (m_X8_putNumber ly3) dX11_describePlea_76 (rfl : 76 + 3 = 79) (Nat.le_of_ble_eq_true rfl) rfl rfl rfl ⟨Nat.le_of_ble_eq_true rfl, Nat.le_of_ble_eq_true rfl⟩ ?_
    generalize hg4 : (pnL (((y3.1 0).2.2 2) (Int32.toNatClampNeg a1)) 10 y3 0 0) = y4
    have ly4 : kLn y4 := by rw [← hg4]; exact pnL_ln ly3
    refine k_aload_n (i := 0) dX11_describePlea_79 (rfl : 79 + 1 = 80) rfl rfl ?_
    refine k_get 11 7 fg_X11_53 dX11_describePlea_80 (rfl : 80 + 3 = 83) (Nat.le_of_ble_eq_true rfl) rfl rfl ?_
    refine k_bipush (v := 45) dX11_describePlea_83 (rfl : 83 + 2 = 85) (by decide) ?_
    refine k_callVv1 cv_X11_389 ⟨Nat.le_of_ble_eq_true rfl, Nat.le_of_ble_eq_true rfl⟩ (m_X8_put ly4) dX11_describePlea_85 (rfl : 85 + 3 = 88) (Nat.le_of_ble_eq_true rfl) rfl rfl rfl ⟨Nat.le_of_ble_eq_true rfl, Nat.le_of_ble_eq_true rfl⟩ ?_
    generalize hg5 : (g_X8_put y4 45) = y5
    have ly5 : kLn y5 := by rw [← hg5]; exact put_ln ly4
    refine k_aload_n (i := 0) dX11_describePlea_88 (rfl : 88 + 1 = 89) rfl rfl ?_
    refine k_get 11 7 fg_X11_53 dX11_describePlea_89 (rfl : 89 + 3 = 92) (Nat.le_of_ble_eq_true rfl) rfl rfl ?_
    refine k_aload_n (i := 2) dX11_describePlea_92 (rfl : 92 + 1 = 93) rfl rfl ?_
    refine k_iload_n (i := 1) dX11_describePlea_93 (rfl : 93 + 1 = 94) rfl rfl ?_
    refine k_callVd1 cv_X11_285 ⟨Nat.le_of_ble_eq_true rfl, Nat.le_of_ble_eq_true rfl⟩ (m_X3_lastHour (kIv_pc iv b13)) dX11_describePlea_94 (rfl : 94 + 3 = 97) (Nat.le_of_ble_eq_true rfl) rfl rfl rfl ⟨Nat.le_of_ble_eq_true rfl, Nat.le_of_ble_eq_true rfl⟩ ?_
    refine k_callVv1 cv_X11_390 ⟨Nat.le_of_ble_eq_true rfl, Nat.le_of_ble_eq_true rfl⟩ (m_X8_putNumber ly5) dX11_describePlea_97 (rfl : 97 + 3 = 100) (Nat.le_of_ble_eq_true rfl) rfl rfl rfl ⟨Nat.le_of_ble_eq_true rfl, Nat.le_of_ble_eq_true rfl⟩ ?_
    generalize hg6 : (pnL (f_X3_lastHour y5 a1) 10 y5 0 0) = y6
    have ly6 : kLn y6 := by rw [← hg6]; exact pnL_ln ly5
    refine k_aload_n (i := 2) dX11_describePlea_100 (rfl : 100 + 1 = 101) rfl rfl ?_
    refine k_iload_n (i := 1) dX11_describePlea_101 (rfl : 101 + 1 = 102) rfl rfl ?_
    refine k_aload_n (i := 2) dX11_describePlea_102 (rfl : 102 + 1 = 103) rfl rfl ?_
    refine k_get 3 0 fg_X11_309 dX11_describePlea_103 (rfl : 103 + 3 = 106) (Nat.le_of_ble_eq_true rfl) rfl rfl ?_
    refine k_callVd2 cv_X11_394 ⟨Nat.le_of_ble_eq_true rfl, Nat.le_of_ble_eq_true rfl⟩ (m_X3_canBeHeard (kIv_pc iv b13)) dX11_describePlea_106 (rfl : 106 + 3 = 109) (Nat.le_of_ble_eq_true rfl) rfl rfl rfl ⟨Nat.le_of_ble_eq_true rfl, Nat.le_of_ble_eq_true rfl⟩ ?_
    refine k_if_eq (tgt := 121) dX11_describePlea_109 (rfl : 109 + 3 = 112) (by decide) (fun b109 => ?_) (fun b109 => ?_)
    · refine k_aload_n (i := 0) dX11_describePlea_121 (rfl : 121 + 1 = 122) rfl rfl ?_
      refine k_get 11 7 fg_X11_53 dX11_describePlea_122 (rfl : 122 + 3 = 125) (Nat.le_of_ble_eq_true rfl) rfl rfl ?_
      refine k_get 8 1 fg_X11_384 dX11_describePlea_125 (rfl : 125 + 3 = 128) (Nat.le_of_ble_eq_true rfl) rfl rfl ?_
      refine k_iret rfl rfl dX11_describePlea_128 (Nat.le_of_ble_eq_true rfl) (Nat.le_of_ble_eq_true rfl) ?_
      subst hg6
      subst hg5
      subst hg4
      subst hg3
      subst hg2
      subst hg1
      exact kRo_of (Eq.symm (Eq.trans (if_neg (show ¬ ((f_X3_hasPlea x a1) = 0) from b13)) (if_pos (show (f_X3_canBeHeard (pnL (f_X3_lastHour (g_X8_put (pnL ((((g_X8_put (pnL ((((g_X8_put (kkS x 7 0) 112).1 0).2.2 1) (Int32.toNatClampNeg a1)) 10 (g_X8_put (kkS x 7 0) 112) 0 0) 58).1 0).2.2 2) (Int32.toNatClampNeg a1)) 10 (g_X8_put (pnL ((((g_X8_put (kkS x 7 0) 112).1 0).2.2 1) (Int32.toNatClampNeg a1)) 10 (g_X8_put (kkS x 7 0) 112) 0 0) 58) 0 0) 45) a1) 10 (g_X8_put (pnL ((((g_X8_put (pnL ((((g_X8_put (kkS x 7 0) 112).1 0).2.2 1) (Int32.toNatClampNeg a1)) 10 (g_X8_put (kkS x 7 0) 112) 0 0) 58).1 0).2.2 2) (Int32.toNatClampNeg a1)) 10 (g_X8_put (pnL ((((g_X8_put (kkS x 7 0) 112).1 0).2.2 1) (Int32.toNatClampNeg a1)) 10 (g_X8_put (kkS x 7 0) 112) 0 0) 58) 0 0) 45) 0 0) a1 (((pnL (f_X3_lastHour (g_X8_put (pnL ((((g_X8_put (pnL ((((g_X8_put (kkS x 7 0) 112).1 0).2.2 1) (Int32.toNatClampNeg a1)) 10 (g_X8_put (kkS x 7 0) 112) 0 0) 58).1 0).2.2 2) (Int32.toNatClampNeg a1)) 10 (g_X8_put (pnL ((((g_X8_put (kkS x 7 0) 112).1 0).2.2 1) (Int32.toNatClampNeg a1)) 10 (g_X8_put (kkS x 7 0) 112) 0 0) 58) 0 0) 45) a1) 10 (g_X8_put (pnL ((((g_X8_put (pnL ((((g_X8_put (kkS x 7 0) 112).1 0).2.2 1) (Int32.toNatClampNeg a1)) 10 (g_X8_put (kkS x 7 0) 112) 0 0) 58).1 0).2.2 2) (Int32.toNatClampNeg a1)) 10 (g_X8_put (pnL ((((g_X8_put (kkS x 7 0) 112).1 0).2.2 1) (Int32.toNatClampNeg a1)) 10 (g_X8_put (kkS x 7 0) 112) 0 0) 58) 0 0) 45) 0 0).1 0).2.1 4)) = 0 from b109)))) (congrArg (fun z => kTp (kHc z) r) (Eq.symm (Eq.trans (if_neg (show ¬ ((f_X3_hasPlea x a1) = 0) from b13)) (if_pos (show (f_X3_canBeHeard (pnL (f_X3_lastHour (g_X8_put (pnL ((((g_X8_put (pnL ((((g_X8_put (kkS x 7 0) 112).1 0).2.2 1) (Int32.toNatClampNeg a1)) 10 (g_X8_put (kkS x 7 0) 112) 0 0) 58).1 0).2.2 2) (Int32.toNatClampNeg a1)) 10 (g_X8_put (pnL ((((g_X8_put (kkS x 7 0) 112).1 0).2.2 1) (Int32.toNatClampNeg a1)) 10 (g_X8_put (kkS x 7 0) 112) 0 0) 58) 0 0) 45) a1) 10 (g_X8_put (pnL ((((g_X8_put (pnL ((((g_X8_put (kkS x 7 0) 112).1 0).2.2 1) (Int32.toNatClampNeg a1)) 10 (g_X8_put (kkS x 7 0) 112) 0 0) 58).1 0).2.2 2) (Int32.toNatClampNeg a1)) 10 (g_X8_put (pnL ((((g_X8_put (kkS x 7 0) 112).1 0).2.2 1) (Int32.toNatClampNeg a1)) 10 (g_X8_put (kkS x 7 0) 112) 0 0) 58) 0 0) 45) 0 0) a1 (((pnL (f_X3_lastHour (g_X8_put (pnL ((((g_X8_put (pnL ((((g_X8_put (kkS x 7 0) 112).1 0).2.2 1) (Int32.toNatClampNeg a1)) 10 (g_X8_put (kkS x 7 0) 112) 0 0) 58).1 0).2.2 2) (Int32.toNatClampNeg a1)) 10 (g_X8_put (pnL ((((g_X8_put (kkS x 7 0) 112).1 0).2.2 1) (Int32.toNatClampNeg a1)) 10 (g_X8_put (kkS x 7 0) 112) 0 0) 58) 0 0) 45) a1) 10 (g_X8_put (pnL ((((g_X8_put (pnL ((((g_X8_put (kkS x 7 0) 112).1 0).2.2 1) (Int32.toNatClampNeg a1)) 10 (g_X8_put (kkS x 7 0) 112) 0 0) 58).1 0).2.2 2) (Int32.toNatClampNeg a1)) 10 (g_X8_put (pnL ((((g_X8_put (kkS x 7 0) 112).1 0).2.2 1) (Int32.toNatClampNeg a1)) 10 (g_X8_put (kkS x 7 0) 112) 0 0) 58) 0 0) 45) 0 0).1 0).2.1 4)) = 0 from b109)))))
    · refine k_aload_n (i := 0) dX11_describePlea_112 (rfl : 112 + 1 = 113) rfl rfl ?_
      refine k_get 11 7 fg_X11_53 dX11_describePlea_113 (rfl : 113 + 3 = 116) (Nat.le_of_ble_eq_true rfl) rfl rfl ?_
      refine k_bipush (v := 42) dX11_describePlea_116 (rfl : 116 + 2 = 118) (by decide) ?_
      refine k_callVv1 cv_X11_389 ⟨Nat.le_of_ble_eq_true rfl, Nat.le_of_ble_eq_true rfl⟩ (m_X8_put ly6) dX11_describePlea_118 (rfl : 118 + 3 = 121) (Nat.le_of_ble_eq_true rfl) rfl rfl rfl ⟨Nat.le_of_ble_eq_true rfl, Nat.le_of_ble_eq_true rfl⟩ ?_
      generalize hg7 : (g_X8_put y6 42) = y7
      have ly7 : kLn y7 := by rw [← hg7]; exact put_ln ly6
      refine k_aload_n (i := 0) dX11_describePlea_121 (rfl : 121 + 1 = 122) rfl rfl ?_
      refine k_get 11 7 fg_X11_53 dX11_describePlea_122 (rfl : 122 + 3 = 125) (Nat.le_of_ble_eq_true rfl) rfl rfl ?_
      refine k_get 8 1 fg_X11_384 dX11_describePlea_125 (rfl : 125 + 3 = 128) (Nat.le_of_ble_eq_true rfl) rfl rfl ?_
      refine k_iret rfl rfl dX11_describePlea_128 (Nat.le_of_ble_eq_true rfl) (Nat.le_of_ble_eq_true rfl) ?_
      subst hg7
      subst hg6
      subst hg5
      subst hg4
      subst hg3
      subst hg2
      subst hg1
      exact kRo_of (Eq.symm (Eq.trans (if_neg (show ¬ ((f_X3_hasPlea x a1) = 0) from b13)) (if_neg (show ¬ ((f_X3_canBeHeard (pnL (f_X3_lastHour (g_X8_put (pnL ((((g_X8_put (pnL ((((g_X8_put (kkS x 7 0) 112).1 0).2.2 1) (Int32.toNatClampNeg a1)) 10 (g_X8_put (kkS x 7 0) 112) 0 0) 58).1 0).2.2 2) (Int32.toNatClampNeg a1)) 10 (g_X8_put (pnL ((((g_X8_put (kkS x 7 0) 112).1 0).2.2 1) (Int32.toNatClampNeg a1)) 10 (g_X8_put (kkS x 7 0) 112) 0 0) 58) 0 0) 45) a1) 10 (g_X8_put (pnL ((((g_X8_put (pnL ((((g_X8_put (kkS x 7 0) 112).1 0).2.2 1) (Int32.toNatClampNeg a1)) 10 (g_X8_put (kkS x 7 0) 112) 0 0) 58).1 0).2.2 2) (Int32.toNatClampNeg a1)) 10 (g_X8_put (pnL ((((g_X8_put (kkS x 7 0) 112).1 0).2.2 1) (Int32.toNatClampNeg a1)) 10 (g_X8_put (kkS x 7 0) 112) 0 0) 58) 0 0) 45) 0 0) a1 (((pnL (f_X3_lastHour (g_X8_put (pnL ((((g_X8_put (pnL ((((g_X8_put (kkS x 7 0) 112).1 0).2.2 1) (Int32.toNatClampNeg a1)) 10 (g_X8_put (kkS x 7 0) 112) 0 0) 58).1 0).2.2 2) (Int32.toNatClampNeg a1)) 10 (g_X8_put (pnL ((((g_X8_put (kkS x 7 0) 112).1 0).2.2 1) (Int32.toNatClampNeg a1)) 10 (g_X8_put (kkS x 7 0) 112) 0 0) 58) 0 0) 45) a1) 10 (g_X8_put (pnL ((((g_X8_put (pnL ((((g_X8_put (kkS x 7 0) 112).1 0).2.2 1) (Int32.toNatClampNeg a1)) 10 (g_X8_put (kkS x 7 0) 112) 0 0) 58).1 0).2.2 2) (Int32.toNatClampNeg a1)) 10 (g_X8_put (pnL ((((g_X8_put (kkS x 7 0) 112).1 0).2.2 1) (Int32.toNatClampNeg a1)) 10 (g_X8_put (kkS x 7 0) 112) 0 0) 58) 0 0) 45) 0 0).1 0).2.1 4)) = 0) from b109)))) (congrArg (fun z => kTp (kHc z) r) (Eq.symm (Eq.trans (if_neg (show ¬ ((f_X3_hasPlea x a1) = 0) from b13)) (if_neg (show ¬ ((f_X3_canBeHeard (pnL (f_X3_lastHour (g_X8_put (pnL ((((g_X8_put (pnL ((((g_X8_put (kkS x 7 0) 112).1 0).2.2 1) (Int32.toNatClampNeg a1)) 10 (g_X8_put (kkS x 7 0) 112) 0 0) 58).1 0).2.2 2) (Int32.toNatClampNeg a1)) 10 (g_X8_put (pnL ((((g_X8_put (kkS x 7 0) 112).1 0).2.2 1) (Int32.toNatClampNeg a1)) 10 (g_X8_put (kkS x 7 0) 112) 0 0) 58) 0 0) 45) a1) 10 (g_X8_put (pnL ((((g_X8_put (pnL ((((g_X8_put (kkS x 7 0) 112).1 0).2.2 1) (Int32.toNatClampNeg a1)) 10 (g_X8_put (kkS x 7 0) 112) 0 0) 58).1 0).2.2 2) (Int32.toNatClampNeg a1)) 10 (g_X8_put (pnL ((((g_X8_put (kkS x 7 0) 112).1 0).2.2 1) (Int32.toNatClampNeg a1)) 10 (g_X8_put (kkS x 7 0) 112) 0 0) 58) 0 0) 45) 0 0) a1 (((pnL (f_X3_lastHour (g_X8_put (pnL ((((g_X8_put (pnL ((((g_X8_put (kkS x 7 0) 112).1 0).2.2 1) (Int32.toNatClampNeg a1)) 10 (g_X8_put (kkS x 7 0) 112) 0 0) 58).1 0).2.2 2) (Int32.toNatClampNeg a1)) 10 (g_X8_put (pnL ((((g_X8_put (kkS x 7 0) 112).1 0).2.2 1) (Int32.toNatClampNeg a1)) 10 (g_X8_put (kkS x 7 0) 112) 0 0) 58) 0 0) 45) a1) 10 (g_X8_put (pnL ((((g_X8_put (pnL ((((g_X8_put (kkS x 7 0) 112).1 0).2.2 1) (Int32.toNatClampNeg a1)) 10 (g_X8_put (kkS x 7 0) 112) 0 0) 58).1 0).2.2 2) (Int32.toNatClampNeg a1)) 10 (g_X8_put (pnL ((((g_X8_put (kkS x 7 0) 112).1 0).2.2 1) (Int32.toNatClampNeg a1)) 10 (g_X8_put (kkS x 7 0) 112) 0 0) 58) 0 0) 45) 0 0).1 0).2.1 4)) = 0) from b109)))))
  · refine k_throwW th_X11_72_76 tx_X11_278 rfl dX11_describePlea_16 dX11_describePlea_19 dX11_describePlea_20 dX11_describePlea_23 dX11_describePlea_26 (Nat.le_of_ble_eq_true rfl) (Nat.le_of_ble_eq_true rfl) ⟨(Nat.le_of_ble_eq_true rfl), (Nat.le_of_ble_eq_true rfl)⟩ (Nat.le_of_ble_eq_true rfl) (Nat.le_of_ble_eq_true rfl) ?_
    exact kRo_of (Eq.symm (if_pos (show (f_X3_hasPlea x a1) = 0 from b13))) (congrArg (fun z => kTp (kHc z) r) (Eq.symm (if_pos (show (f_X3_hasPlea x a1) = 0 from b13))))
def f_X11_flightBits_ok (x : kK) (a1 : Int32) : Int64 := (ecL ((g_X4_fly x a1).2.2.1 0) (Int32.toNatClampNeg ((g_X4_fly x a1).2.1 2)) 1 0)
def g_X11_flightBits_ok (x : kK) (a1 : Int32) : kK := (g_X4_fly x a1)
set_option maxRecDepth 100000 in
set_option maxHeartbeats 4000000 in
theorem m_X11_flightBits_ok {x : kK} {r : kH} {a1 : Int32} (ht : ¬ f_X11_isThrow a1 = 0) : kMet kX11_flightBits false 0 0 [.ref 0, .int a1] (kTp (kHc x) r) 130 (kRt (some (.long (f_X11_flightBits_ok x a1))) (kTp (kHc (g_X11_flightBits_ok x a1)) r) 130) := by
  refine kMet.in (by decide) rfl rfl _ rfl ?_
  refine k_iload_n (i := 1) dX11_flightBits_0 (rfl : 0 + 1 = 1) rfl rfl ?_
  refine k_callSd1 cv_X11_199 ⟨Nat.le_of_ble_eq_true rfl, Nat.le_of_ble_eq_true rfl⟩ (m_X11_isThrow) dX11_flightBits_1 (rfl : 1 + 3 = 4) rfl ⟨Nat.le_of_ble_eq_true rfl, Nat.le_of_ble_eq_true rfl⟩ ?_
  refine k_if_ne (tgt := 17) dX11_flightBits_4 (rfl : 4 + 3 = 7) (by decide) (fun b4 => ?_) (fun b4 => by exact absurd b4 ht)
  refine k_aload_n (i := 0) dX11_flightBits_17 (rfl : 17 + 1 = 18) rfl rfl ?_
  refine k_get 11 4 fg_X11_32 dX11_flightBits_18 (rfl : 18 + 3 = 21) (Nat.le_of_ble_eq_true rfl) rfl rfl ?_
  refine k_aload_n (i := 0) dX11_flightBits_21 (rfl : 21 + 1 = 22) rfl rfl ?_
  refine k_get 11 0 fg_X11_12 dX11_flightBits_22 (rfl : 22 + 3 = 25) (Nat.le_of_ble_eq_true rfl) rfl rfl ?_
  refine k_get 9 0 fg_X11_100 dX11_flightBits_25 (rfl : 25 + 3 = 28) (Nat.le_of_ble_eq_true rfl) rfl rfl ?_
  refine k_iload_n (i := 1) dX11_flightBits_28 (rfl : 28 + 1 = 29) rfl rfl ?_
  refine k_callVv2 cv_X11_204 ⟨Nat.le_of_ble_eq_true rfl, Nat.le_of_ble_eq_true rfl⟩ (m_X4_fly (fly_h ht).1 (fly_h ht).2) dX11_flightBits_29 (rfl : 29 + 3 = 32) (Nat.le_of_ble_eq_true rfl) rfl rfl rfl ⟨Nat.le_of_ble_eq_true rfl, Nat.le_of_ble_eq_true rfl⟩ ?_
  refine k_aload_n (i := 0) dX11_flightBits_32 (rfl : 32 + 1 = 33) rfl rfl ?_
  refine k_get 11 4 fg_X11_32 dX11_flightBits_33 (rfl : 33 + 3 = 36) (Nat.le_of_ble_eq_true rfl) rfl rfl ?_
  refine k_callVd0 cv_X11_220 ⟨Nat.le_of_ble_eq_true rfl, Nat.le_of_ble_eq_true rfl⟩ (m_X4_enteredCells fly_ok.1) dX11_flightBits_36 (rfl : 36 + 3 = 39) (Nat.le_of_ble_eq_true rfl) rfl rfl rfl ⟨Nat.le_of_ble_eq_true rfl, Nat.le_of_ble_eq_true rfl⟩ ?_
  refine k_lret rfl dX11_flightBits_39 (Nat.le_of_ble_eq_true rfl) (Nat.le_of_ble_eq_true rfl) ?_
  exact kRt_of rfl rfl
def stL (c : Int32) : Nat → kK → Nat → Int64 → kK × Int64
  | 0, x, j, s => (x, s)
  | k + 1, x, j, s => if (pFind ((g_X4_fly x (nI j)).2.2.1 0) c (Int32.toNatClampNeg ((g_X4_fly x (nI j)).2.1 2)) 1) = (-1) then (stL c k (g_X4_fly x (nI j)) (j + 1) s) else (stL c k (g_X4_fly x (nI j)) (j + 1) (s ||| (1 <<< (Int32.toInt64 (nI j) &&& 63))))
set_option maxRecDepth 100000 in
set_option maxHeartbeats 4000000 in
theorem lstL {r : kH} {Q : kQ} {c : Int32} {a : Int32}  : ∀ (k : Nat) (x : kK) (j : Nat) (s : Int64), j + k = 64 → (∀ (z5 : Value), kEv kX11_servingThrows (kRm kX11_servingThrows 0 0) (kFm false 0 0 (Q)) false 90 [.ref 0, .int a, .int c, .long (stL c k x j s).2, .retAddr 0, z5] [] (kTp (kHc (stL c k x j s).1) r) 130 0 0) → kEv kX11_servingThrows (kRm kX11_servingThrows 0 0) (kFm false 0 0 (Q)) false 42 [.ref 0, .int a, .int c, .long s, .retAddr 0, .int (nI j)] [] (kTp (kHc x) r) 130 0 0 := by
  intro k
  induction k with
  | zero =>
    intro x j s hj hx
    refine k_iload (i := 5) dX11_servingThrows_42 (rfl : 42 + 2 = 44) rfl ?_
    refine k_bipush (v := 64) dX11_servingThrows_44 (rfl : 44 + 2 = 46) (by decide) ?_
    refine k_icmp_ge (tgt := 90) dX11_servingThrows_46 (rfl : 46 + 3 = 49) (by decide) (fun b46 => ?_) (fun b46 => by exact absurd (nI_le (a := 64) (b := j) (by omega) (by omega)) b46)
    rw [stL] at hx
    exact hx _
  | succ k ih =>
    intro x j s hj hx
    refine k_iload (i := 5) dX11_servingThrows_42 (rfl : 42 + 2 = 44) rfl ?_
    refine k_bipush (v := 64) dX11_servingThrows_44 (rfl : 44 + 2 = 46) (by decide) ?_
    refine k_icmp_ge (tgt := 90) dX11_servingThrows_46 (rfl : 46 + 3 = 49) (by decide) (fun b46 => by exact absurd b46 (nI_ge (a := j) (b := 64) (by omega) (by decide))) (fun b46 => ?_)
    refine k_aload_n (i := 0) dX11_servingThrows_49 (rfl : 49 + 1 = 50) rfl rfl ?_
    refine k_get 11 4 fg_X11_32 dX11_servingThrows_50 (rfl : 50 + 3 = 53) (Nat.le_of_ble_eq_true rfl) rfl rfl ?_
    refine k_aload_n (i := 0) dX11_servingThrows_53 (rfl : 53 + 1 = 54) rfl rfl ?_
    refine k_get 11 0 fg_X11_12 dX11_servingThrows_54 (rfl : 54 + 3 = 57) (Nat.le_of_ble_eq_true rfl) rfl rfl ?_
    refine k_get 9 0 fg_X11_100 dX11_servingThrows_57 (rfl : 57 + 3 = 60) (Nat.le_of_ble_eq_true rfl) rfl rfl ?_
    refine k_iload (i := 5) dX11_servingThrows_60 (rfl : 60 + 2 = 62) rfl ?_
    refine k_callVv2 cv_X11_204 ⟨Nat.le_of_ble_eq_true rfl, Nat.le_of_ble_eq_true rfl⟩ (m_X4_fly (nI_nlt0 (by omega)) (nI_lt64 (by omega))) dX11_servingThrows_62 (rfl : 62 + 3 = 65) (Nat.le_of_ble_eq_true rfl) rfl rfl rfl ⟨Nat.le_of_ble_eq_true rfl, Nat.le_of_ble_eq_true rfl⟩ ?_
    generalize hg1 : (g_X4_fly x (nI j)) = y1
    refine k_aload_n (i := 0) dX11_servingThrows_65 (rfl : 65 + 1 = 66) rfl rfl ?_
    refine k_get 11 4 fg_X11_32 dX11_servingThrows_66 (rfl : 66 + 3 = 69) (Nat.le_of_ble_eq_true rfl) rfl rfl ?_
    refine k_iload_n (i := 2) dX11_servingThrows_69 (rfl : 69 + 1 = 70) rfl rfl ?_
    refine k_callVd1 cv_X11_223 ⟨Nat.le_of_ble_eq_true rfl, Nat.le_of_ble_eq_true rfl⟩ (m_X4_stepsTo (by rw [← hg1]; exact fly_ok.1)) dX11_servingThrows_70 (rfl : 70 + 3 = 73) (Nat.le_of_ble_eq_true rfl) rfl rfl rfl ⟨Nat.le_of_ble_eq_true rfl, Nat.le_of_ble_eq_true rfl⟩ ?_
    refine k_iconst (v := (-1)) dX11_servingThrows_73 (rfl : 73 + 1 = 74) (by decide) ?_
    refine k_icmp_eq (tgt := 84) dX11_servingThrows_74 (rfl : 74 + 3 = 77) (by decide) (fun b74 => ?_) (fun b74 => ?_)
    · refine k_iinc (i := 5) (v := (nI (j + 1))) dX11_servingThrows_84 (rfl : 84 + 3 = 87) rfl (Nat.le_of_ble_eq_true rfl) (nI_1 _) ?_
      refine k_ls (ls2 := [.ref 0, .int a, .int c, .long s, .retAddr 0, .int (nI (j + 1))]) rfl ?_
      refine k_goto (tgt := 42) dX11_servingThrows_87 (by decide) ?_
      subst hg1
      rw [stL, if_pos (show (pFind ((g_X4_fly x (nI j)).2.2.1 0) c (Int32.toNatClampNeg ((g_X4_fly x (nI j)).2.1 2)) 1) = (-1) from b74)] at hx
      exact ih (g_X4_fly x (nI j)) (j + 1) s (by omega) hx
    · refine k_lload_n (i := 3) dX11_servingThrows_77 (rfl : 77 + 1 = 78) rfl rfl ?_
      refine k_lconst (v := 1) dX11_servingThrows_78 (rfl : 78 + 1 = 79) (by decide) ?_
      refine k_iload (i := 5) dX11_servingThrows_79 (rfl : 79 + 2 = 81) rfl ?_
      refine k_lshl dX11_servingThrows_81 (rfl : 81 + 1 = 82) ?_
      refine k_lor dX11_servingThrows_82 (rfl : 82 + 1 = 83) ?_
      refine k_lstore_n (i := 3) dX11_servingThrows_83 (rfl : 83 + 1 = 84) rfl (Nat.le_of_ble_eq_true rfl) ?_
      refine k_ls (ls2 := [.ref 0, .int a, .int c, .long (s ||| (1 <<< (Int32.toInt64 (nI j) &&& 63))), .retAddr 0, .int (nI j)]) rfl ?_
      refine k_iinc (i := 5) (v := (nI (j + 1))) dX11_servingThrows_84 (rfl : 84 + 3 = 87) rfl (Nat.le_of_ble_eq_true rfl) (nI_1 _) ?_
      refine k_ls (ls2 := [.ref 0, .int a, .int c, .long (s ||| (1 <<< (Int32.toInt64 (nI j) &&& 63))), .retAddr 0, .int (nI (j + 1))]) rfl ?_
      refine k_goto (tgt := 42) dX11_servingThrows_87 (by decide) ?_
      subst hg1
      rw [stL, if_neg (show ¬ ((pFind ((g_X4_fly x (nI j)).2.2.1 0) c (Int32.toNatClampNeg ((g_X4_fly x (nI j)).2.1 2)) 1) = (-1)) from b74)] at hx
      exact ih (g_X4_fly x (nI j)) (j + 1) (s ||| (1 <<< (Int32.toInt64 (nI j) &&& 63))) (by omega) hx
set_option maxRecDepth 100000 in
set_option maxHeartbeats 4000000 in
theorem lstL_t {r : kH} {Q : kQ} {c : Int32} {a : Int32}  : ∀ (k : Nat) (x : kK) (j : Nat) (s : Int64), j + k = 64 → (∀ (z5 : Value), kEv kX11_servingThrows (kRm kX11_servingThrows 1 6) (kFm false 1 6 (Q)) false 90 [.ref 0, .int a, .int c, .long (stL c k x j s).2, .retAddr 0, z5] [] (kTp (kHc (stL c k x j s).1) r) 130 0 0) → kEv kX11_servingThrows (kRm kX11_servingThrows 1 6) (kFm false 1 6 (Q)) false 42 [.ref 0, .int a, .int c, .long s, .retAddr 0, .int (nI j)] [] (kTp (kHc x) r) 130 0 0 := by
  intro k
  induction k with
  | zero =>
    intro x j s hj hx
    refine k_iload (i := 5) dX11_servingThrows_42 (rfl : 42 + 2 = 44) rfl ?_
    refine k_bipush (v := 64) dX11_servingThrows_44 (rfl : 44 + 2 = 46) (by decide) ?_
    refine k_icmp_ge (tgt := 90) dX11_servingThrows_46 (rfl : 46 + 3 = 49) (by decide) (fun b46 => ?_) (fun b46 => by exact absurd (nI_le (a := 64) (b := j) (by omega) (by omega)) b46)
    rw [stL] at hx
    exact hx _
  | succ k ih =>
    intro x j s hj hx
    refine k_iload (i := 5) dX11_servingThrows_42 (rfl : 42 + 2 = 44) rfl ?_
    refine k_bipush (v := 64) dX11_servingThrows_44 (rfl : 44 + 2 = 46) (by decide) ?_
    refine k_icmp_ge (tgt := 90) dX11_servingThrows_46 (rfl : 46 + 3 = 49) (by decide) (fun b46 => by exact absurd b46 (nI_ge (a := j) (b := 64) (by omega) (by decide))) (fun b46 => ?_)
    refine k_aload_n (i := 0) dX11_servingThrows_49 (rfl : 49 + 1 = 50) rfl rfl ?_
    refine k_get 11 4 fg_X11_32 dX11_servingThrows_50 (rfl : 50 + 3 = 53) (Nat.le_of_ble_eq_true rfl) rfl rfl ?_
    refine k_aload_n (i := 0) dX11_servingThrows_53 (rfl : 53 + 1 = 54) rfl rfl ?_
    refine k_get 11 0 fg_X11_12 dX11_servingThrows_54 (rfl : 54 + 3 = 57) (Nat.le_of_ble_eq_true rfl) rfl rfl ?_
    refine k_get 9 0 fg_X11_100 dX11_servingThrows_57 (rfl : 57 + 3 = 60) (Nat.le_of_ble_eq_true rfl) rfl rfl ?_
    refine k_iload (i := 5) dX11_servingThrows_60 (rfl : 60 + 2 = 62) rfl ?_
    refine k_callVv2 cv_X11_204 ⟨Nat.le_of_ble_eq_true rfl, Nat.le_of_ble_eq_true rfl⟩ (m_X4_fly (nI_nlt0 (by omega)) (nI_lt64 (by omega))) dX11_servingThrows_62 (rfl : 62 + 3 = 65) (Nat.le_of_ble_eq_true rfl) rfl rfl rfl ⟨Nat.le_of_ble_eq_true rfl, Nat.le_of_ble_eq_true rfl⟩ ?_
    generalize hg1 : (g_X4_fly x (nI j)) = y1
    refine k_aload_n (i := 0) dX11_servingThrows_65 (rfl : 65 + 1 = 66) rfl rfl ?_
    refine k_get 11 4 fg_X11_32 dX11_servingThrows_66 (rfl : 66 + 3 = 69) (Nat.le_of_ble_eq_true rfl) rfl rfl ?_
    refine k_iload_n (i := 2) dX11_servingThrows_69 (rfl : 69 + 1 = 70) rfl rfl ?_
    refine k_callVd1 cv_X11_223 ⟨Nat.le_of_ble_eq_true rfl, Nat.le_of_ble_eq_true rfl⟩ (m_X4_stepsTo (by rw [← hg1]; exact fly_ok.1)) dX11_servingThrows_70 (rfl : 70 + 3 = 73) (Nat.le_of_ble_eq_true rfl) rfl rfl rfl ⟨Nat.le_of_ble_eq_true rfl, Nat.le_of_ble_eq_true rfl⟩ ?_
    refine k_iconst (v := (-1)) dX11_servingThrows_73 (rfl : 73 + 1 = 74) (by decide) ?_
    refine k_icmp_eq (tgt := 84) dX11_servingThrows_74 (rfl : 74 + 3 = 77) (by decide) (fun b74 => ?_) (fun b74 => ?_)
    · refine k_iinc (i := 5) (v := (nI (j + 1))) dX11_servingThrows_84 (rfl : 84 + 3 = 87) rfl (Nat.le_of_ble_eq_true rfl) (nI_1 _) ?_
      refine k_ls (ls2 := [.ref 0, .int a, .int c, .long s, .retAddr 0, .int (nI (j + 1))]) rfl ?_
      refine k_goto (tgt := 42) dX11_servingThrows_87 (by decide) ?_
      subst hg1
      rw [stL, if_pos (show (pFind ((g_X4_fly x (nI j)).2.2.1 0) c (Int32.toNatClampNeg ((g_X4_fly x (nI j)).2.1 2)) 1) = (-1) from b74)] at hx
      exact ih (g_X4_fly x (nI j)) (j + 1) s (by omega) hx
    · refine k_lload_n (i := 3) dX11_servingThrows_77 (rfl : 77 + 1 = 78) rfl rfl ?_
      refine k_lconst (v := 1) dX11_servingThrows_78 (rfl : 78 + 1 = 79) (by decide) ?_
      refine k_iload (i := 5) dX11_servingThrows_79 (rfl : 79 + 2 = 81) rfl ?_
      refine k_lshl dX11_servingThrows_81 (rfl : 81 + 1 = 82) ?_
      refine k_lor dX11_servingThrows_82 (rfl : 82 + 1 = 83) ?_
      refine k_lstore_n (i := 3) dX11_servingThrows_83 (rfl : 83 + 1 = 84) rfl (Nat.le_of_ble_eq_true rfl) ?_
      refine k_ls (ls2 := [.ref 0, .int a, .int c, .long (s ||| (1 <<< (Int32.toInt64 (nI j) &&& 63))), .retAddr 0, .int (nI j)]) rfl ?_
      refine k_iinc (i := 5) (v := (nI (j + 1))) dX11_servingThrows_84 (rfl : 84 + 3 = 87) rfl (Nat.le_of_ble_eq_true rfl) (nI_1 _) ?_
      refine k_ls (ls2 := [.ref 0, .int a, .int c, .long (s ||| (1 <<< (Int32.toInt64 (nI j) &&& 63))), .retAddr 0, .int (nI (j + 1))]) rfl ?_
      refine k_goto (tgt := 42) dX11_servingThrows_87 (by decide) ?_
      subst hg1
      rw [stL, if_neg (show ¬ ((pFind ((g_X4_fly x (nI j)).2.2.1 0) c (Int32.toNatClampNeg ((g_X4_fly x (nI j)).2.1 2)) 1) = (-1)) from b74)] at hx
      exact ih (g_X4_fly x (nI j)) (j + 1) (s ||| (1 <<< (Int32.toInt64 (nI j) &&& 63))) (by omega) hx
def o_X11_servingThrows (x : kK) (a1 : Int32) : kOut := if (b2i (decide (0 ≤ a1 ∧ a1 < ((x.1 0).2.1 3)))) = 0 then (.inr "java/lang/IndexOutOfBoundsException") else (.inl (some (.long ((stL (((x.1 0).2.2 0) (Int32.toNatClampNeg a1)) 64 x 0 0).2))))
def g_X11_servingThrows (x : kK) (a1 : Int32) : kK := if (b2i (decide (0 ≤ a1 ∧ a1 < ((x.1 0).2.1 3)))) = 0 then x else ((stL (((x.1 0).2.2 0) (Int32.toNatClampNeg a1)) 64 x 0 0).1)
set_option maxRecDepth 100000 in
set_option maxHeartbeats 4000000 in
theorem m_X11_servingThrows {x : kK} {r : kH} {a1 : Int32} (iv : kIv (x.1 0)) : kMet kX11_servingThrows false 1 6 [.ref 0, .int a1] (kTp (kHc x) r) 130 (kRo (o_X11_servingThrows x a1) (kTp (kHc (g_X11_servingThrows x a1)) r) 130) := by
  refine kMet.in (by decide) rfl rfl _ rfl ?_
  refine k_aload_n (i := 0) dX11_servingThrows_0 (rfl : 0 + 1 = 1) rfl rfl ?_
  refine k_get 11 0 fg_X11_12 dX11_servingThrows_1 (rfl : 1 + 3 = 4) (Nat.le_of_ble_eq_true rfl) rfl rfl ?_
  refine k_get 9 0 fg_X11_100 dX11_servingThrows_4 (rfl : 4 + 3 = 7) (Nat.le_of_ble_eq_true rfl) rfl rfl ?_
  refine k_iload_n (i := 1) dX11_servingThrows_7 (rfl : 7 + 1 = 8) rfl rfl ?_
  refine k_callVd1 cv_X11_172 ⟨Nat.le_of_ble_eq_true rfl, Nat.le_of_ble_eq_true rfl⟩ (m_X10_hasParty) dX11_servingThrows_8 (rfl : 8 + 3 = 11) (Nat.le_of_ble_eq_true rfl) rfl rfl rfl ⟨Nat.le_of_ble_eq_true rfl, Nat.le_of_ble_eq_true rfl⟩ ?_
  refine k_if_ne (tgt := 24) dX11_servingThrows_11 (rfl : 11 + 3 = 14) (by decide) (fun b11 => ?_) (fun b11 => ?_)
  · refine k_aload_n (i := 0) dX11_servingThrows_24 (rfl : 24 + 1 = 25) rfl rfl ?_
    refine k_get 11 0 fg_X11_12 dX11_servingThrows_25 (rfl : 25 + 3 = 28) (Nat.le_of_ble_eq_true rfl) rfl rfl ?_
    refine k_get 9 0 fg_X11_100 dX11_servingThrows_28 (rfl : 28 + 3 = 31) (Nat.le_of_ble_eq_true rfl) rfl rfl ?_
    refine k_get 10 5 fg_X11_178 dX11_servingThrows_31 (rfl : 31 + 3 = 34) (Nat.le_of_ble_eq_true rfl) rfl rfl ?_
    refine k_iload_n (i := 1) dX11_servingThrows_34 (rfl : 34 + 1 = 35) rfl rfl ?_
    refine k_iald dX11_servingThrows_35 (rfl : 35 + 1 = 36) (Nat.le_of_ble_eq_true rfl) rfl (kIv_pa iv b11) ?_
    refine k_istore_n (i := 2) dX11_servingThrows_36 (rfl : 36 + 1 = 37) rfl (Nat.le_of_ble_eq_true rfl) ?_
    refine k_ls (ls2 := [.ref 0, .int a1, .int (((x.1 0).2.2 0) (Int32.toNatClampNeg a1)), .retAddr 0, .retAddr 0, .retAddr 0]) rfl ?_
    refine k_lconst (v := 0) dX11_servingThrows_37 (rfl : 37 + 1 = 38) (by decide) ?_
    refine k_lstore_n (i := 3) dX11_servingThrows_38 (rfl : 38 + 1 = 39) rfl (Nat.le_of_ble_eq_true rfl) ?_
    refine k_ls (ls2 := [.ref 0, .int a1, .int (((x.1 0).2.2 0) (Int32.toNatClampNeg a1)), .long 0, .retAddr 0, .retAddr 0]) rfl ?_
    refine k_iconst (v := 0) dX11_servingThrows_39 (rfl : 39 + 1 = 40) (by decide) ?_
    refine k_istore (i := 5) dX11_servingThrows_40 (rfl : 40 + 2 = 42) (Nat.le_of_ble_eq_true rfl) ?_
    refine k_ls (ls2 := [.ref 0, .int a1, .int (((x.1 0).2.2 0) (Int32.toNatClampNeg a1)), .long 0, .retAddr 0, .int 0]) rfl ?_
    refine lstL_t (c := (((x.1 0).2.2 0) (Int32.toNatClampNeg a1))) 64 x 0 0 (by omega) (fun z5 => ?_)
    generalize hw42 : (stL (((x.1 0).2.2 0) (Int32.toNatClampNeg a1)) 64 x 0 0) = w42
    refine k_lload_n (i := 3) dX11_servingThrows_90 (rfl : 90 + 1 = 91) rfl rfl ?_
    refine k_lret rfl dX11_servingThrows_91 (Nat.le_of_ble_eq_true rfl) (Nat.le_of_ble_eq_true rfl) ?_
    subst hw42
    exact kRo_of (Eq.symm (if_neg (show ¬ ((b2i (decide (0 ≤ a1 ∧ a1 < ((x.1 0).2.1 3)))) = 0) from b11))) (congrArg (fun z => kTp (kHc z) r) (Eq.symm (if_neg (show ¬ ((b2i (decide (0 ≤ a1 ∧ a1 < ((x.1 0).2.1 3)))) = 0) from b11))))
  · refine k_throw th_X11_72_76 tx_X11_176 rfl dX11_servingThrows_14 dX11_servingThrows_17 dX11_servingThrows_18 dX11_servingThrows_20 dX11_servingThrows_23 (Nat.le_of_ble_eq_true rfl) (Nat.le_of_ble_eq_true rfl) ⟨(Nat.le_of_ble_eq_true rfl), (Nat.le_of_ble_eq_true rfl)⟩ (Nat.le_of_ble_eq_true rfl) (Nat.le_of_ble_eq_true rfl) ?_
    exact kRo_of (Eq.symm (if_pos (show (b2i (decide (0 ≤ a1 ∧ a1 < ((x.1 0).2.1 3)))) = 0 from b11))) (congrArg (fun z => kTp (kHc z) r) (Eq.symm (if_pos (show (b2i (decide (0 ≤ a1 ∧ a1 < ((x.1 0).2.1 3)))) = 0 from b11))))
def f_X11_servingThrows_ok (x : kK) (a1 : Int32) : Int64 := (stL (((x.1 0).2.2 0) (Int32.toNatClampNeg a1)) 64 x 0 0).2
def g_X11_servingThrows_ok (x : kK) (a1 : Int32) : kK := (stL (((x.1 0).2.2 0) (Int32.toNatClampNeg a1)) 64 x 0 0).1
set_option maxRecDepth 100000 in
set_option maxHeartbeats 4000000 in
theorem m_X11_servingThrows_ok {x : kK} {r : kH} {a1 : Int32} (iv : kIv (x.1 0)) (hp : ¬ b2i (decide (0 ≤ a1 ∧ a1 < (x.1 0).2.1 3)) = 0) : kMet kX11_servingThrows false 0 0 [.ref 0, .int a1] (kTp (kHc x) r) 130 (kRt (some (.long (f_X11_servingThrows_ok x a1))) (kTp (kHc (g_X11_servingThrows_ok x a1)) r) 130) := by
  refine kMet.in (by decide) rfl rfl _ rfl ?_
  refine k_aload_n (i := 0) dX11_servingThrows_0 (rfl : 0 + 1 = 1) rfl rfl ?_
  refine k_get 11 0 fg_X11_12 dX11_servingThrows_1 (rfl : 1 + 3 = 4) (Nat.le_of_ble_eq_true rfl) rfl rfl ?_
  refine k_get 9 0 fg_X11_100 dX11_servingThrows_4 (rfl : 4 + 3 = 7) (Nat.le_of_ble_eq_true rfl) rfl rfl ?_
  refine k_iload_n (i := 1) dX11_servingThrows_7 (rfl : 7 + 1 = 8) rfl rfl ?_
  refine k_callVd1 cv_X11_172 ⟨Nat.le_of_ble_eq_true rfl, Nat.le_of_ble_eq_true rfl⟩ (m_X10_hasParty) dX11_servingThrows_8 (rfl : 8 + 3 = 11) (Nat.le_of_ble_eq_true rfl) rfl rfl rfl ⟨Nat.le_of_ble_eq_true rfl, Nat.le_of_ble_eq_true rfl⟩ ?_
  refine k_if_ne (tgt := 24) dX11_servingThrows_11 (rfl : 11 + 3 = 14) (by decide) (fun b11 => ?_) (fun b11 => by exact absurd b11 hp)
  refine k_aload_n (i := 0) dX11_servingThrows_24 (rfl : 24 + 1 = 25) rfl rfl ?_
  refine k_get 11 0 fg_X11_12 dX11_servingThrows_25 (rfl : 25 + 3 = 28) (Nat.le_of_ble_eq_true rfl) rfl rfl ?_
  refine k_get 9 0 fg_X11_100 dX11_servingThrows_28 (rfl : 28 + 3 = 31) (Nat.le_of_ble_eq_true rfl) rfl rfl ?_
  refine k_get 10 5 fg_X11_178 dX11_servingThrows_31 (rfl : 31 + 3 = 34) (Nat.le_of_ble_eq_true rfl) rfl rfl ?_
  refine k_iload_n (i := 1) dX11_servingThrows_34 (rfl : 34 + 1 = 35) rfl rfl ?_
  refine k_iald dX11_servingThrows_35 (rfl : 35 + 1 = 36) (Nat.le_of_ble_eq_true rfl) rfl (kIv_pa iv hp) ?_
  refine k_istore_n (i := 2) dX11_servingThrows_36 (rfl : 36 + 1 = 37) rfl (Nat.le_of_ble_eq_true rfl) ?_
  refine k_ls (ls2 := [.ref 0, .int a1, .int (((x.1 0).2.2 0) (Int32.toNatClampNeg a1)), .retAddr 0, .retAddr 0, .retAddr 0]) rfl ?_
  refine k_lconst (v := 0) dX11_servingThrows_37 (rfl : 37 + 1 = 38) (by decide) ?_
  refine k_lstore_n (i := 3) dX11_servingThrows_38 (rfl : 38 + 1 = 39) rfl (Nat.le_of_ble_eq_true rfl) ?_
  refine k_ls (ls2 := [.ref 0, .int a1, .int (((x.1 0).2.2 0) (Int32.toNatClampNeg a1)), .long 0, .retAddr 0, .retAddr 0]) rfl ?_
  refine k_iconst (v := 0) dX11_servingThrows_39 (rfl : 39 + 1 = 40) (by decide) ?_
  refine k_istore (i := 5) dX11_servingThrows_40 (rfl : 40 + 2 = 42) (Nat.le_of_ble_eq_true rfl) ?_
  refine k_ls (ls2 := [.ref 0, .int a1, .int (((x.1 0).2.2 0) (Int32.toNatClampNeg a1)), .long 0, .retAddr 0, .int 0]) rfl ?_
  refine lstL (c := (((x.1 0).2.2 0) (Int32.toNatClampNeg a1))) 64 x 0 0 (by omega) (fun z5 => ?_)
  generalize hw42 : (stL (((x.1 0).2.2 0) (Int32.toNatClampNeg a1)) 64 x 0 0) = w42
  refine k_lload_n (i := 3) dX11_servingThrows_90 (rfl : 90 + 1 = 91) rfl rfl ?_
  refine k_lret rfl dX11_servingThrows_91 (Nat.le_of_ble_eq_true rfl) (Nat.le_of_ble_eq_true rfl) ?_
  subst hw42
  exact kRt_of rfl rfl
theorem it_nI {j : Nat} (h : j < 64) : ¬ f_X11_isThrow (nI j) = 0 := by
  unfold f_X11_isThrow
  rw [if_neg (nI_nlt0 (by omega)), if_neg (show ¬ (64 : Int32) ≤ nI j from nI_ge (a := j) (b := 64) h (by decide))]
  decide
def sbL (c : Int32) : Nat → kK → Nat → Int64 → kK × Int64
  | 0, x, j, s => (x, s)
  | k + 1, x, j, s => (sbL c k (g_X11_flightBits_ok x (nI j)) (j + 1) (s ||| (((Int64.toUInt64 (f_X11_flightBits_ok x (nI j)) >>> (Int64.toUInt64 (Int32.toInt64 c) &&& Int64.toUInt64 63)).toInt64 &&& 1) <<< (Int32.toInt64 (nI j) &&& 63))))
set_option maxRecDepth 100000 in
set_option maxHeartbeats 4000000 in
theorem lsbL {r : kH} {Q : kQ} {c : Int32} {a : Int32}  : ∀ (k : Nat) (x : kK) (j : Nat) (s : Int64), j + k = 64 → (∀ (z5 : Value), kEv kX11_servingThrowsBySets (kRm kX11_servingThrowsBySets 0 0) (kFm false 0 0 (Q)) false 71 [.ref 0, .int a, .int c, .long (sbL c k x j s).2, .retAddr 0, z5] [] (kTp (kHc (sbL c k x j s).1) r) 130 0 0) → kEv kX11_servingThrowsBySets (kRm kX11_servingThrowsBySets 0 0) (kFm false 0 0 (Q)) false 42 [.ref 0, .int a, .int c, .long s, .retAddr 0, .int (nI j)] [] (kTp (kHc x) r) 130 0 0 := by
  intro k
  induction k with
  | zero =>
    intro x j s hj hx
    refine k_iload (i := 5) dX11_servingThrowsBySets_42 (rfl : 42 + 2 = 44) rfl ?_
    refine k_bipush (v := 64) dX11_servingThrowsBySets_44 (rfl : 44 + 2 = 46) (by decide) ?_
    refine k_icmp_ge (tgt := 71) dX11_servingThrowsBySets_46 (rfl : 46 + 3 = 49) (by decide) (fun b46 => ?_) (fun b46 => by exact absurd (nI_le (a := 64) (b := j) (by omega) (by omega)) b46)
    rw [sbL] at hx
    exact hx _
  | succ k ih =>
    intro x j s hj hx
    refine k_iload (i := 5) dX11_servingThrowsBySets_42 (rfl : 42 + 2 = 44) rfl ?_
    refine k_bipush (v := 64) dX11_servingThrowsBySets_44 (rfl : 44 + 2 = 46) (by decide) ?_
    refine k_icmp_ge (tgt := 71) dX11_servingThrowsBySets_46 (rfl : 46 + 3 = 49) (by decide) (fun b46 => by exact absurd b46 (nI_ge (a := j) (b := 64) (by omega) (by decide))) (fun b46 => ?_)
    refine k_lload_n (i := 3) dX11_servingThrowsBySets_49 (rfl : 49 + 1 = 50) rfl rfl ?_
    refine k_aload_n (i := 0) dX11_servingThrowsBySets_50 (rfl : 50 + 1 = 51) rfl rfl ?_
    refine k_iload (i := 5) dX11_servingThrowsBySets_51 (rfl : 51 + 2 = 53) rfl ?_
    refine k_callVd1 cv_X11_226 ⟨Nat.le_of_ble_eq_true rfl, Nat.le_of_ble_eq_true rfl⟩ (m_X11_flightBits_ok (it_nI (by omega))) dX11_servingThrowsBySets_53 (rfl : 53 + 3 = 56) (Nat.le_of_ble_eq_true rfl) rfl rfl rfl ⟨Nat.le_of_ble_eq_true rfl, Nat.le_of_ble_eq_true rfl⟩ ?_
    refine k_iload_n (i := 2) dX11_servingThrowsBySets_56 (rfl : 56 + 1 = 57) rfl rfl ?_
    refine k_lushr dX11_servingThrowsBySets_57 (rfl : 57 + 1 = 58) ?_
    refine k_lconst (v := 1) dX11_servingThrowsBySets_58 (rfl : 58 + 1 = 59) (by decide) ?_
    refine k_land dX11_servingThrowsBySets_59 (rfl : 59 + 1 = 60) ?_
    refine k_iload (i := 5) dX11_servingThrowsBySets_60 (rfl : 60 + 2 = 62) rfl ?_
    refine k_lshl dX11_servingThrowsBySets_62 (rfl : 62 + 1 = 63) ?_
    refine k_lor dX11_servingThrowsBySets_63 (rfl : 63 + 1 = 64) ?_
    refine k_lstore_n (i := 3) dX11_servingThrowsBySets_64 (rfl : 64 + 1 = 65) rfl (Nat.le_of_ble_eq_true rfl) ?_
    refine k_ls (ls2 := [.ref 0, .int a, .int c, .long (s ||| (((Int64.toUInt64 (f_X11_flightBits_ok x (nI j)) >>> (Int64.toUInt64 (Int32.toInt64 c) &&& Int64.toUInt64 63)).toInt64 &&& 1) <<< (Int32.toInt64 (nI j) &&& 63))), .retAddr 0, .int (nI j)]) rfl ?_
    refine k_iinc (i := 5) (v := (nI (j + 1))) dX11_servingThrowsBySets_65 (rfl : 65 + 3 = 68) rfl (Nat.le_of_ble_eq_true rfl) (nI_1 _) ?_
    refine k_ls (ls2 := [.ref 0, .int a, .int c, .long (s ||| (((Int64.toUInt64 (f_X11_flightBits_ok x (nI j)) >>> (Int64.toUInt64 (Int32.toInt64 c) &&& Int64.toUInt64 63)).toInt64 &&& 1) <<< (Int32.toInt64 (nI j) &&& 63))), .retAddr 0, .int (nI (j + 1))]) rfl ?_
    refine k_goto (tgt := 42) dX11_servingThrowsBySets_68 (by decide) ?_
    rw [sbL] at hx
    exact ih (g_X11_flightBits_ok x (nI j)) (j + 1) (s ||| (((Int64.toUInt64 (f_X11_flightBits_ok x (nI j)) >>> (Int64.toUInt64 (Int32.toInt64 c) &&& Int64.toUInt64 63)).toInt64 &&& 1) <<< (Int32.toInt64 (nI j) &&& 63))) (by omega) hx
set_option maxRecDepth 100000 in
set_option maxHeartbeats 4000000 in
theorem lsbL_t {r : kH} {Q : kQ} {c : Int32} {a : Int32}  : ∀ (k : Nat) (x : kK) (j : Nat) (s : Int64), j + k = 64 → (∀ (z5 : Value), kEv kX11_servingThrowsBySets (kRm kX11_servingThrowsBySets 1 6) (kFm false 1 6 (Q)) false 71 [.ref 0, .int a, .int c, .long (sbL c k x j s).2, .retAddr 0, z5] [] (kTp (kHc (sbL c k x j s).1) r) 130 0 0) → kEv kX11_servingThrowsBySets (kRm kX11_servingThrowsBySets 1 6) (kFm false 1 6 (Q)) false 42 [.ref 0, .int a, .int c, .long s, .retAddr 0, .int (nI j)] [] (kTp (kHc x) r) 130 0 0 := by
  intro k
  induction k with
  | zero =>
    intro x j s hj hx
    refine k_iload (i := 5) dX11_servingThrowsBySets_42 (rfl : 42 + 2 = 44) rfl ?_
    refine k_bipush (v := 64) dX11_servingThrowsBySets_44 (rfl : 44 + 2 = 46) (by decide) ?_
    refine k_icmp_ge (tgt := 71) dX11_servingThrowsBySets_46 (rfl : 46 + 3 = 49) (by decide) (fun b46 => ?_) (fun b46 => by exact absurd (nI_le (a := 64) (b := j) (by omega) (by omega)) b46)
    rw [sbL] at hx
    exact hx _
  | succ k ih =>
    intro x j s hj hx
    refine k_iload (i := 5) dX11_servingThrowsBySets_42 (rfl : 42 + 2 = 44) rfl ?_
    refine k_bipush (v := 64) dX11_servingThrowsBySets_44 (rfl : 44 + 2 = 46) (by decide) ?_
    refine k_icmp_ge (tgt := 71) dX11_servingThrowsBySets_46 (rfl : 46 + 3 = 49) (by decide) (fun b46 => by exact absurd b46 (nI_ge (a := j) (b := 64) (by omega) (by decide))) (fun b46 => ?_)
    refine k_lload_n (i := 3) dX11_servingThrowsBySets_49 (rfl : 49 + 1 = 50) rfl rfl ?_
    refine k_aload_n (i := 0) dX11_servingThrowsBySets_50 (rfl : 50 + 1 = 51) rfl rfl ?_
    refine k_iload (i := 5) dX11_servingThrowsBySets_51 (rfl : 51 + 2 = 53) rfl ?_
    refine k_callVd1 cv_X11_226 ⟨Nat.le_of_ble_eq_true rfl, Nat.le_of_ble_eq_true rfl⟩ (m_X11_flightBits_ok (it_nI (by omega))) dX11_servingThrowsBySets_53 (rfl : 53 + 3 = 56) (Nat.le_of_ble_eq_true rfl) rfl rfl rfl ⟨Nat.le_of_ble_eq_true rfl, Nat.le_of_ble_eq_true rfl⟩ ?_
    refine k_iload_n (i := 2) dX11_servingThrowsBySets_56 (rfl : 56 + 1 = 57) rfl rfl ?_
    refine k_lushr dX11_servingThrowsBySets_57 (rfl : 57 + 1 = 58) ?_
    refine k_lconst (v := 1) dX11_servingThrowsBySets_58 (rfl : 58 + 1 = 59) (by decide) ?_
    refine k_land dX11_servingThrowsBySets_59 (rfl : 59 + 1 = 60) ?_
    refine k_iload (i := 5) dX11_servingThrowsBySets_60 (rfl : 60 + 2 = 62) rfl ?_
    refine k_lshl dX11_servingThrowsBySets_62 (rfl : 62 + 1 = 63) ?_
    refine k_lor dX11_servingThrowsBySets_63 (rfl : 63 + 1 = 64) ?_
    refine k_lstore_n (i := 3) dX11_servingThrowsBySets_64 (rfl : 64 + 1 = 65) rfl (Nat.le_of_ble_eq_true rfl) ?_
    refine k_ls (ls2 := [.ref 0, .int a, .int c, .long (s ||| (((Int64.toUInt64 (f_X11_flightBits_ok x (nI j)) >>> (Int64.toUInt64 (Int32.toInt64 c) &&& Int64.toUInt64 63)).toInt64 &&& 1) <<< (Int32.toInt64 (nI j) &&& 63))), .retAddr 0, .int (nI j)]) rfl ?_
    refine k_iinc (i := 5) (v := (nI (j + 1))) dX11_servingThrowsBySets_65 (rfl : 65 + 3 = 68) rfl (Nat.le_of_ble_eq_true rfl) (nI_1 _) ?_
    refine k_ls (ls2 := [.ref 0, .int a, .int c, .long (s ||| (((Int64.toUInt64 (f_X11_flightBits_ok x (nI j)) >>> (Int64.toUInt64 (Int32.toInt64 c) &&& Int64.toUInt64 63)).toInt64 &&& 1) <<< (Int32.toInt64 (nI j) &&& 63))), .retAddr 0, .int (nI (j + 1))]) rfl ?_
    refine k_goto (tgt := 42) dX11_servingThrowsBySets_68 (by decide) ?_
    rw [sbL] at hx
    exact ih (g_X11_flightBits_ok x (nI j)) (j + 1) (s ||| (((Int64.toUInt64 (f_X11_flightBits_ok x (nI j)) >>> (Int64.toUInt64 (Int32.toInt64 c) &&& Int64.toUInt64 63)).toInt64 &&& 1) <<< (Int32.toInt64 (nI j) &&& 63))) (by omega) hx
def o_X11_servingThrowsBySets (x : kK) (a1 : Int32) : kOut := if (b2i (decide (0 ≤ a1 ∧ a1 < ((x.1 0).2.1 3)))) = 0 then (.inr "java/lang/IndexOutOfBoundsException") else (.inl (some (.long ((sbL (((x.1 0).2.2 0) (Int32.toNatClampNeg a1)) 64 x 0 0).2))))
def g_X11_servingThrowsBySets (x : kK) (a1 : Int32) : kK := if (b2i (decide (0 ≤ a1 ∧ a1 < ((x.1 0).2.1 3)))) = 0 then x else ((sbL (((x.1 0).2.2 0) (Int32.toNatClampNeg a1)) 64 x 0 0).1)
set_option maxRecDepth 100000 in
set_option maxHeartbeats 4000000 in
theorem m_X11_servingThrowsBySets {x : kK} {r : kH} {a1 : Int32} (iv : kIv (x.1 0)) : kMet kX11_servingThrowsBySets false 1 6 [.ref 0, .int a1] (kTp (kHc x) r) 130 (kRo (o_X11_servingThrowsBySets x a1) (kTp (kHc (g_X11_servingThrowsBySets x a1)) r) 130) := by
  refine kMet.in (by decide) rfl rfl _ rfl ?_
  refine k_aload_n (i := 0) dX11_servingThrowsBySets_0 (rfl : 0 + 1 = 1) rfl rfl ?_
  refine k_get 11 0 fg_X11_12 dX11_servingThrowsBySets_1 (rfl : 1 + 3 = 4) (Nat.le_of_ble_eq_true rfl) rfl rfl ?_
  refine k_get 9 0 fg_X11_100 dX11_servingThrowsBySets_4 (rfl : 4 + 3 = 7) (Nat.le_of_ble_eq_true rfl) rfl rfl ?_
  refine k_iload_n (i := 1) dX11_servingThrowsBySets_7 (rfl : 7 + 1 = 8) rfl rfl ?_
  refine k_callVd1 cv_X11_172 ⟨Nat.le_of_ble_eq_true rfl, Nat.le_of_ble_eq_true rfl⟩ (m_X10_hasParty) dX11_servingThrowsBySets_8 (rfl : 8 + 3 = 11) (Nat.le_of_ble_eq_true rfl) rfl rfl rfl ⟨Nat.le_of_ble_eq_true rfl, Nat.le_of_ble_eq_true rfl⟩ ?_
  refine k_if_ne (tgt := 24) dX11_servingThrowsBySets_11 (rfl : 11 + 3 = 14) (by decide) (fun b11 => ?_) (fun b11 => ?_)
  · refine k_aload_n (i := 0) dX11_servingThrowsBySets_24 (rfl : 24 + 1 = 25) rfl rfl ?_
    refine k_get 11 0 fg_X11_12 dX11_servingThrowsBySets_25 (rfl : 25 + 3 = 28) (Nat.le_of_ble_eq_true rfl) rfl rfl ?_
    refine k_get 9 0 fg_X11_100 dX11_servingThrowsBySets_28 (rfl : 28 + 3 = 31) (Nat.le_of_ble_eq_true rfl) rfl rfl ?_
    refine k_get 10 5 fg_X11_178 dX11_servingThrowsBySets_31 (rfl : 31 + 3 = 34) (Nat.le_of_ble_eq_true rfl) rfl rfl ?_
    refine k_iload_n (i := 1) dX11_servingThrowsBySets_34 (rfl : 34 + 1 = 35) rfl rfl ?_
    refine k_iald dX11_servingThrowsBySets_35 (rfl : 35 + 1 = 36) (Nat.le_of_ble_eq_true rfl) rfl (kIv_pa iv b11) ?_
    refine k_istore_n (i := 2) dX11_servingThrowsBySets_36 (rfl : 36 + 1 = 37) rfl (Nat.le_of_ble_eq_true rfl) ?_
    refine k_ls (ls2 := [.ref 0, .int a1, .int (((x.1 0).2.2 0) (Int32.toNatClampNeg a1)), .retAddr 0, .retAddr 0, .retAddr 0]) rfl ?_
    refine k_lconst (v := 0) dX11_servingThrowsBySets_37 (rfl : 37 + 1 = 38) (by decide) ?_
    refine k_lstore_n (i := 3) dX11_servingThrowsBySets_38 (rfl : 38 + 1 = 39) rfl (Nat.le_of_ble_eq_true rfl) ?_
    refine k_ls (ls2 := [.ref 0, .int a1, .int (((x.1 0).2.2 0) (Int32.toNatClampNeg a1)), .long 0, .retAddr 0, .retAddr 0]) rfl ?_
    refine k_iconst (v := 0) dX11_servingThrowsBySets_39 (rfl : 39 + 1 = 40) (by decide) ?_
    refine k_istore (i := 5) dX11_servingThrowsBySets_40 (rfl : 40 + 2 = 42) (Nat.le_of_ble_eq_true rfl) ?_
    refine k_ls (ls2 := [.ref 0, .int a1, .int (((x.1 0).2.2 0) (Int32.toNatClampNeg a1)), .long 0, .retAddr 0, .int 0]) rfl ?_
    refine lsbL_t (c := (((x.1 0).2.2 0) (Int32.toNatClampNeg a1))) 64 x 0 0 (by omega) (fun z5 => ?_)
    generalize hw42 : (sbL (((x.1 0).2.2 0) (Int32.toNatClampNeg a1)) 64 x 0 0) = w42
    refine k_lload_n (i := 3) dX11_servingThrowsBySets_71 (rfl : 71 + 1 = 72) rfl rfl ?_
    refine k_lret rfl dX11_servingThrowsBySets_72 (Nat.le_of_ble_eq_true rfl) (Nat.le_of_ble_eq_true rfl) ?_
    subst hw42
    exact kRo_of (Eq.symm (if_neg (show ¬ ((b2i (decide (0 ≤ a1 ∧ a1 < ((x.1 0).2.1 3)))) = 0) from b11))) (congrArg (fun z => kTp (kHc z) r) (Eq.symm (if_neg (show ¬ ((b2i (decide (0 ≤ a1 ∧ a1 < ((x.1 0).2.1 3)))) = 0) from b11))))
  · refine k_throw th_X11_72_76 tx_X11_176 rfl dX11_servingThrowsBySets_14 dX11_servingThrowsBySets_17 dX11_servingThrowsBySets_18 dX11_servingThrowsBySets_20 dX11_servingThrowsBySets_23 (Nat.le_of_ble_eq_true rfl) (Nat.le_of_ble_eq_true rfl) ⟨(Nat.le_of_ble_eq_true rfl), (Nat.le_of_ble_eq_true rfl)⟩ (Nat.le_of_ble_eq_true rfl) (Nat.le_of_ble_eq_true rfl) ?_
    exact kRo_of (Eq.symm (if_pos (show (b2i (decide (0 ≤ a1 ∧ a1 < ((x.1 0).2.1 3)))) = 0 from b11))) (congrArg (fun z => kTp (kHc z) r) (Eq.symm (if_pos (show (b2i (decide (0 ≤ a1 ∧ a1 < ((x.1 0).2.1 3)))) = 0 from b11))))
def f_X11_servingThrowsBySets_ok (x : kK) (a1 : Int32) : Int64 := (sbL (((x.1 0).2.2 0) (Int32.toNatClampNeg a1)) 64 x 0 0).2
def g_X11_servingThrowsBySets_ok (x : kK) (a1 : Int32) : kK := (sbL (((x.1 0).2.2 0) (Int32.toNatClampNeg a1)) 64 x 0 0).1
set_option maxRecDepth 100000 in
set_option maxHeartbeats 4000000 in
theorem m_X11_servingThrowsBySets_ok {x : kK} {r : kH} {a1 : Int32} (iv : kIv (x.1 0)) (hp : ¬ b2i (decide (0 ≤ a1 ∧ a1 < (x.1 0).2.1 3)) = 0) : kMet kX11_servingThrowsBySets false 0 0 [.ref 0, .int a1] (kTp (kHc x) r) 130 (kRt (some (.long (f_X11_servingThrowsBySets_ok x a1))) (kTp (kHc (g_X11_servingThrowsBySets_ok x a1)) r) 130) := by
  refine kMet.in (by decide) rfl rfl _ rfl ?_
  refine k_aload_n (i := 0) dX11_servingThrowsBySets_0 (rfl : 0 + 1 = 1) rfl rfl ?_
  refine k_get 11 0 fg_X11_12 dX11_servingThrowsBySets_1 (rfl : 1 + 3 = 4) (Nat.le_of_ble_eq_true rfl) rfl rfl ?_
  refine k_get 9 0 fg_X11_100 dX11_servingThrowsBySets_4 (rfl : 4 + 3 = 7) (Nat.le_of_ble_eq_true rfl) rfl rfl ?_
  refine k_iload_n (i := 1) dX11_servingThrowsBySets_7 (rfl : 7 + 1 = 8) rfl rfl ?_
  refine k_callVd1 cv_X11_172 ⟨Nat.le_of_ble_eq_true rfl, Nat.le_of_ble_eq_true rfl⟩ (m_X10_hasParty) dX11_servingThrowsBySets_8 (rfl : 8 + 3 = 11) (Nat.le_of_ble_eq_true rfl) rfl rfl rfl ⟨Nat.le_of_ble_eq_true rfl, Nat.le_of_ble_eq_true rfl⟩ ?_
  refine k_if_ne (tgt := 24) dX11_servingThrowsBySets_11 (rfl : 11 + 3 = 14) (by decide) (fun b11 => ?_) (fun b11 => by exact absurd b11 hp)
  refine k_aload_n (i := 0) dX11_servingThrowsBySets_24 (rfl : 24 + 1 = 25) rfl rfl ?_
  refine k_get 11 0 fg_X11_12 dX11_servingThrowsBySets_25 (rfl : 25 + 3 = 28) (Nat.le_of_ble_eq_true rfl) rfl rfl ?_
  refine k_get 9 0 fg_X11_100 dX11_servingThrowsBySets_28 (rfl : 28 + 3 = 31) (Nat.le_of_ble_eq_true rfl) rfl rfl ?_
  refine k_get 10 5 fg_X11_178 dX11_servingThrowsBySets_31 (rfl : 31 + 3 = 34) (Nat.le_of_ble_eq_true rfl) rfl rfl ?_
  refine k_iload_n (i := 1) dX11_servingThrowsBySets_34 (rfl : 34 + 1 = 35) rfl rfl ?_
  refine k_iald dX11_servingThrowsBySets_35 (rfl : 35 + 1 = 36) (Nat.le_of_ble_eq_true rfl) rfl (kIv_pa iv hp) ?_
  refine k_istore_n (i := 2) dX11_servingThrowsBySets_36 (rfl : 36 + 1 = 37) rfl (Nat.le_of_ble_eq_true rfl) ?_
  refine k_ls (ls2 := [.ref 0, .int a1, .int (((x.1 0).2.2 0) (Int32.toNatClampNeg a1)), .retAddr 0, .retAddr 0, .retAddr 0]) rfl ?_
  refine k_lconst (v := 0) dX11_servingThrowsBySets_37 (rfl : 37 + 1 = 38) (by decide) ?_
  refine k_lstore_n (i := 3) dX11_servingThrowsBySets_38 (rfl : 38 + 1 = 39) rfl (Nat.le_of_ble_eq_true rfl) ?_
  refine k_ls (ls2 := [.ref 0, .int a1, .int (((x.1 0).2.2 0) (Int32.toNatClampNeg a1)), .long 0, .retAddr 0, .retAddr 0]) rfl ?_
  refine k_iconst (v := 0) dX11_servingThrowsBySets_39 (rfl : 39 + 1 = 40) (by decide) ?_
  refine k_istore (i := 5) dX11_servingThrowsBySets_40 (rfl : 40 + 2 = 42) (Nat.le_of_ble_eq_true rfl) ?_
  refine k_ls (ls2 := [.ref 0, .int a1, .int (((x.1 0).2.2 0) (Int32.toNatClampNeg a1)), .long 0, .retAddr 0, .int 0]) rfl ?_
  refine lsbL (c := (((x.1 0).2.2 0) (Int32.toNatClampNeg a1))) 64 x 0 0 (by omega) (fun z5 => ?_)
  generalize hw42 : (sbL (((x.1 0).2.2 0) (Int32.toNatClampNeg a1)) 64 x 0 0) = w42
  refine k_lload_n (i := 3) dX11_servingThrowsBySets_71 (rfl : 71 + 1 = 72) rfl rfl ?_
  refine k_lret rfl dX11_servingThrowsBySets_72 (Nat.le_of_ble_eq_true rfl) (Nat.le_of_ble_eq_true rfl) ?_
  subst hw42
  exact kRt_of rfl rfl
theorem iv_pp {c : kCo} (iv : kIv c) : (c.2.1 3).toNatClampNeg ≤ 8 := by
  obtain ⟨n, hn, e⟩ := iv.1
  rw [e, nI_clamp (by omega)]
  exact hn
def sgL (x : kK) : Nat → Nat → Int64 → Int64
  | 0, j, s => s
  | k + 1, j, s => (sgL x k (j + 1) ((s ^^^ (1 <<< (Int32.toInt64 (((x.1 0).2.2 0) (Int32.toNatClampNeg (nI j))) &&& 63))) * (31 : Int64)))
set_option maxRecDepth 100000 in
set_option maxHeartbeats 4000000 in
theorem lsgL {x : kK} {r : kH} {Q : kQ}  (iv : kIv (x.1 0)) : ∀ (k : Nat) (j : Nat) (s : Int64), j + k = (Int32.toNatClampNeg ((x.1 0).2.1 3)) → (∀ (z3 : Value), kEv kX11_signature (kRm kX11_signature 0 0) (kFm false 0 0 (Q)) false 58 [.ref 0, .long (sgL x k j s), .retAddr 0, z3] [] (kTp (kHc x) r) 130 0 0) → kEv kX11_signature (kRm kX11_signature 0 0) (kFm false 0 0 (Q)) false 17 [.ref 0, .long s, .retAddr 0, .int (nI j)] [] (kTp (kHc x) r) 130 0 0 := by
  intro k
  induction k with
  | zero =>
    intro j s hj hx
    refine k_iload_n (i := 3) dX11_signature_17 (rfl : 17 + 1 = 18) rfl rfl ?_
    refine k_aload_n (i := 0) dX11_signature_18 (rfl : 18 + 1 = 19) rfl rfl ?_
    refine k_get 11 0 fg_X11_12 dX11_signature_19 (rfl : 19 + 3 = 22) (Nat.le_of_ble_eq_true rfl) rfl rfl ?_
    refine k_get 9 0 fg_X11_100 dX11_signature_22 (rfl : 22 + 3 = 25) (Nat.le_of_ble_eq_true rfl) rfl rfl ?_
    refine k_get 10 4 fg_X11_169 dX11_signature_25 (rfl : 25 + 3 = 28) (Nat.le_of_ble_eq_true rfl) rfl rfl ?_
    refine k_icmp_ge (tgt := 58) dX11_signature_28 (rfl : 28 + 3 = 31) (by decide) (fun b28 => ?_) (fun b28 => by exact absurd (cl_le (by omega)) b28)
    rw [sgL] at hx
    exact hx _
  | succ k ih =>
    intro j s hj hx
    refine k_iload_n (i := 3) dX11_signature_17 (rfl : 17 + 1 = 18) rfl rfl ?_
    refine k_aload_n (i := 0) dX11_signature_18 (rfl : 18 + 1 = 19) rfl rfl ?_
    refine k_get 11 0 fg_X11_12 dX11_signature_19 (rfl : 19 + 3 = 22) (Nat.le_of_ble_eq_true rfl) rfl rfl ?_
    refine k_get 9 0 fg_X11_100 dX11_signature_22 (rfl : 22 + 3 = 25) (Nat.le_of_ble_eq_true rfl) rfl rfl ?_
    refine k_get 10 4 fg_X11_169 dX11_signature_25 (rfl : 25 + 3 = 28) (Nat.le_of_ble_eq_true rfl) rfl rfl ?_
    refine k_icmp_ge (tgt := 58) dX11_signature_28 (rfl : 28 + 3 = 31) (by decide) (fun b28 => by exact absurd b28 (cl_nle (by omega))) (fun b28 => ?_)
    refine k_lload_n (i := 1) dX11_signature_31 (rfl : 31 + 1 = 32) rfl rfl ?_
    refine k_lconst (v := 1) dX11_signature_32 (rfl : 32 + 1 = 33) (by decide) ?_
    refine k_aload_n (i := 0) dX11_signature_33 (rfl : 33 + 1 = 34) rfl rfl ?_
    refine k_get 11 0 fg_X11_12 dX11_signature_34 (rfl : 34 + 3 = 37) (Nat.le_of_ble_eq_true rfl) rfl rfl ?_
    refine k_get 9 0 fg_X11_100 dX11_signature_37 (rfl : 37 + 3 = 40) (Nat.le_of_ble_eq_true rfl) rfl rfl ?_
    refine k_get 10 5 fg_X11_178 dX11_signature_40 (rfl : 40 + 3 = 43) (Nat.le_of_ble_eq_true rfl) rfl rfl ?_
    refine k_iload_n (i := 3) dX11_signature_43 (rfl : 43 + 1 = 44) rfl rfl ?_
    refine k_iald dX11_signature_44 (rfl : 44 + 1 = 45) (Nat.le_of_ble_eq_true rfl) rfl (by have := iv_pp iv; exact vp_in_nI (by omega) (by omega)) ?_
    refine k_lshl dX11_signature_45 (rfl : 45 + 1 = 46) ?_
    refine k_lxor dX11_signature_46 (rfl : 46 + 1 = 47) ?_
    refine k_ldc2 dX11_signature_47 (rfl : 47 + 3 = 50) kc_X11_348 ?_
    refine k_lmul dX11_signature_50 (rfl : 50 + 1 = 51) ?_
    refine k_lstore_n (i := 1) dX11_signature_51 (rfl : 51 + 1 = 52) rfl (Nat.le_of_ble_eq_true rfl) ?_
    refine k_ls (ls2 := [.ref 0, .long ((s ^^^ (1 <<< (Int32.toInt64 (((x.1 0).2.2 0) (Int32.toNatClampNeg (nI j))) &&& 63))) * (31 : Int64)), .retAddr 0, .int (nI j)]) rfl ?_
    refine k_iinc (i := 3) (v := (nI (j + 1))) dX11_signature_52 (rfl : 52 + 3 = 55) rfl (Nat.le_of_ble_eq_true rfl) (nI_1 _) ?_
    refine k_ls (ls2 := [.ref 0, .long ((s ^^^ (1 <<< (Int32.toInt64 (((x.1 0).2.2 0) (Int32.toNatClampNeg (nI j))) &&& 63))) * (31 : Int64)), .retAddr 0, .int (nI (j + 1))]) rfl ?_
    refine k_goto (tgt := 17) dX11_signature_55 (by decide) ?_
    rw [sgL] at hx
    exact ih (j + 1) ((s ^^^ (1 <<< (Int32.toInt64 (((x.1 0).2.2 0) (Int32.toNatClampNeg (nI j))) &&& 63))) * (31 : Int64)) (by omega) hx
def f_X11_signature (x : kK)  : Int64 := (sgL x (Int32.toNatClampNeg ((x.1 0).2.1 3)) 0 ((x.1 0).1 * (31 : Int64)))
set_option maxRecDepth 100000 in
set_option maxHeartbeats 4000000 in
theorem m_X11_signature {x : kK} {r : kH} (iv : kIv (x.1 0)) : kMet kX11_signature false 0 0 [.ref 0] (kTp (kHc x) r) 130 (kRt (some (.long (f_X11_signature x ))) (kTp (kHc x) r) 130) := by
  refine kMet.in (by decide) rfl rfl _ rfl ?_
  refine k_aload_n (i := 0) dX11_signature_0 (rfl : 0 + 1 = 1) rfl rfl ?_
  refine k_get 11 0 fg_X11_12 dX11_signature_1 (rfl : 1 + 3 = 4) (Nat.le_of_ble_eq_true rfl) rfl rfl ?_
  refine k_get 9 0 fg_X11_100 dX11_signature_4 (rfl : 4 + 3 = 7) (Nat.le_of_ble_eq_true rfl) rfl rfl ?_
  refine k_get 10 0 fg_X11_104 dX11_signature_7 (rfl : 7 + 3 = 10) (Nat.le_of_ble_eq_true rfl) rfl rfl ?_
  refine k_ldc2 dX11_signature_10 (rfl : 10 + 3 = 13) kc_X11_348 ?_
  refine k_lmul dX11_signature_13 (rfl : 13 + 1 = 14) ?_
  refine k_lstore_n (i := 1) dX11_signature_14 (rfl : 14 + 1 = 15) rfl (Nat.le_of_ble_eq_true rfl) ?_
  refine k_ls (ls2 := [.ref 0, .long ((x.1 0).1 * (31 : Int64)), .retAddr 0, .retAddr 0]) rfl ?_
  refine k_iconst (v := 0) dX11_signature_15 (rfl : 15 + 1 = 16) (by decide) ?_
  refine k_istore_n (i := 3) dX11_signature_16 (rfl : 16 + 1 = 17) rfl (Nat.le_of_ble_eq_true rfl) ?_
  refine k_ls (ls2 := [.ref 0, .long ((x.1 0).1 * (31 : Int64)), .retAddr 0, .int 0]) rfl ?_
  refine lsgL iv (Int32.toNatClampNeg ((x.1 0).2.1 3)) 0 ((x.1 0).1 * (31 : Int64)) (by omega) (fun z3 => ?_)
  generalize hw17 : (sgL x (Int32.toNatClampNeg ((x.1 0).2.1 3)) 0 ((x.1 0).1 * (31 : Int64))) = w17
  refine k_lload_n (i := 1) dX11_signature_58 (rfl : 58 + 1 = 59) rfl rfl ?_
  refine k_lret rfl dX11_signature_59 (Nat.le_of_ble_eq_true rfl) (Nat.le_of_ble_eq_true rfl) ?_
  subst hw17
  exact kRt_of rfl rfl
def f_X11_reach_ok (x : kK) (a1 : Int32) (a2 : Int32) : Int64 := (cbs (x.1 0).1 64 (((1 : Int64) <<< (((f_X11_cellAt a1 a2)).toInt64 &&& 63)) &&& ((x.1 0).1 ^^^ (-1))))
set_option maxRecDepth 100000 in
set_option maxHeartbeats 4000000 in
theorem m_X11_reach_ok {x : kK} {r : kH} {a1 : Int32} {a2 : Int32} (hc : ¬ f_X11_isCell a1 a2 = 0) : kMet kX11_reach false 0 0 [.ref 0, .int a1, .int a2] (kTp (kHc x) r) 130 (kRt (some (.long (f_X11_reach_ok x a1 a2))) (kTp (kHc x) r) 130) := by
  refine kMet.in (by decide) rfl rfl _ rfl ?_
  refine k_iload_n (i := 1) dX11_reach_0 (rfl : 0 + 1 = 1) rfl rfl ?_
  refine k_iload_n (i := 2) dX11_reach_1 (rfl : 1 + 1 = 2) rfl rfl ?_
  refine k_callSd2 cv_X11_117 ⟨Nat.le_of_ble_eq_true rfl, Nat.le_of_ble_eq_true rfl⟩ (m_X11_isCell) dX11_reach_2 (rfl : 2 + 3 = 5) rfl ⟨Nat.le_of_ble_eq_true rfl, Nat.le_of_ble_eq_true rfl⟩ ?_
  refine k_if_ne (tgt := 18) dX11_reach_5 (rfl : 5 + 3 = 8) (by decide) (fun b5 => ?_) (fun b5 => by exact absurd b5 hc)
  refine k_aload_n (i := 0) dX11_reach_18 (rfl : 18 + 1 = 19) rfl rfl ?_
  refine k_get 11 0 fg_X11_12 dX11_reach_19 (rfl : 19 + 3 = 22) (Nat.le_of_ble_eq_true rfl) rfl rfl ?_
  refine k_get 9 0 fg_X11_100 dX11_reach_22 (rfl : 22 + 3 = 25) (Nat.le_of_ble_eq_true rfl) rfl rfl ?_
  refine k_iload_n (i := 1) dX11_reach_25 (rfl : 25 + 1 = 26) rfl rfl ?_
  refine k_iload_n (i := 2) dX11_reach_26 (rfl : 26 + 1 = 27) rfl rfl ?_
  refine k_callSd2 cv_X11_121 ⟨Nat.le_of_ble_eq_true rfl, Nat.le_of_ble_eq_true rfl⟩ (m_X11_cellAt) dX11_reach_27 (rfl : 27 + 3 = 30) rfl ⟨Nat.le_of_ble_eq_true rfl, Nat.le_of_ble_eq_true rfl⟩ ?_
  refine k_callVd1 cv_X11_124 ⟨Nat.le_of_ble_eq_true rfl, Nat.le_of_ble_eq_true rfl⟩ (m_X10_connectedBySets) dX11_reach_30 (rfl : 30 + 3 = 33) (Nat.le_of_ble_eq_true rfl) rfl rfl rfl ⟨Nat.le_of_ble_eq_true rfl, Nat.le_of_ble_eq_true rfl⟩ ?_
  refine k_lret rfl dX11_reach_33 (Nat.le_of_ble_eq_true rfl) (Nat.le_of_ble_eq_true rfl) ?_
  exact kRt_of rfl rfl
def f_X11_reachByQueue_ok (x : kK) (a1 : Int32) (a2 : Int32) : Int64 := (f_X11_connectedByQueue x (f_X11_cellAt a1 a2))
def g_X11_reachByQueue_ok (x : kK) (a1 : Int32) (a2 : Int32) : kK := (g_X11_connectedByQueue x (f_X11_cellAt a1 a2))
set_option maxRecDepth 100000 in
set_option maxHeartbeats 4000000 in
theorem m_X11_reachByQueue_ok {x : kK} {r : kH} {a1 : Int32} {a2 : Int32} (hc : ¬ f_X11_isCell a1 a2 = 0) : kMet kX11_reachByQueue false 0 0 [.ref 0, .int a1, .int a2] (kTp (kHc x) r) 130 (kRt (some (.long (f_X11_reachByQueue_ok x a1 a2))) (kTp (kHc (g_X11_reachByQueue_ok x a1 a2)) r) 130) := by
  refine kMet.in (by decide) rfl rfl _ rfl ?_
  refine k_iload_n (i := 1) dX11_reachByQueue_0 (rfl : 0 + 1 = 1) rfl rfl ?_
  refine k_iload_n (i := 2) dX11_reachByQueue_1 (rfl : 1 + 1 = 2) rfl rfl ?_
  refine k_callSd2 cv_X11_117 ⟨Nat.le_of_ble_eq_true rfl, Nat.le_of_ble_eq_true rfl⟩ (m_X11_isCell) dX11_reachByQueue_2 (rfl : 2 + 3 = 5) rfl ⟨Nat.le_of_ble_eq_true rfl, Nat.le_of_ble_eq_true rfl⟩ ?_
  refine k_if_ne (tgt := 18) dX11_reachByQueue_5 (rfl : 5 + 3 = 8) (by decide) (fun b5 => ?_) (fun b5 => by exact absurd b5 hc)
  refine k_aload_n (i := 0) dX11_reachByQueue_18 (rfl : 18 + 1 = 19) rfl rfl ?_
  refine k_iload_n (i := 1) dX11_reachByQueue_19 (rfl : 19 + 1 = 20) rfl rfl ?_
  refine k_iload_n (i := 2) dX11_reachByQueue_20 (rfl : 20 + 1 = 21) rfl rfl ?_
  refine k_callSd2 cv_X11_121 ⟨Nat.le_of_ble_eq_true rfl, Nat.le_of_ble_eq_true rfl⟩ (m_X11_cellAt) dX11_reachByQueue_21 (rfl : 21 + 3 = 24) rfl ⟨Nat.le_of_ble_eq_true rfl, Nat.le_of_ble_eq_true rfl⟩ ?_
  refine k_callVd1 cv_X11_128 ⟨Nat.le_of_ble_eq_true rfl, Nat.le_of_ble_eq_true rfl⟩ (m_X11_connectedByQueue) dX11_reachByQueue_24 (rfl : 24 + 3 = 27) (Nat.le_of_ble_eq_true rfl) rfl rfl rfl ⟨Nat.le_of_ble_eq_true rfl, Nat.le_of_ble_eq_true rfl⟩ ?_
  refine k_lret rfl dX11_reachByQueue_27 (Nat.le_of_ble_eq_true rfl) (Nat.le_of_ble_eq_true rfl) ?_
  exact kRt_of rfl rfl
theorem ic_and {a b : Int32} : ¬ f_X11_isCell (a &&& 7) (b &&& 7) = 0 := by
  obtain ⟨i, hi, e1⟩ := pk_andE a (m := 7) 3 (by decide)
  obtain ⟨j, hj, e2⟩ := pk_andE b (m := 7) 3 (by decide)
  rw [e1, e2]
  have h : ∀ i, i < 8 → ∀ j, j < 8 → ¬ f_X11_isCell (nI i) (nI j) = 0 := by decide
  exact h i (by omega) j (by omega)
def f_X11_isReachConsistent (x : kK) (a1 : Int32) : Int32 := if (lg_cmp (f_X11_reach_ok x (a1 &&& 7) ((a1 >>> ((3 : Int32) &&& 31)) &&& 7)) (f_X11_reachByQueue_ok x (a1 &&& 7) ((a1 >>> ((3 : Int32) &&& 31)) &&& 7))) = 0 then 1 else 0
def g_X11_isReachConsistent (x : kK) (a1 : Int32) : kK := if (lg_cmp (f_X11_reach_ok x (a1 &&& 7) ((a1 >>> ((3 : Int32) &&& 31)) &&& 7)) (f_X11_reachByQueue_ok x (a1 &&& 7) ((a1 >>> ((3 : Int32) &&& 31)) &&& 7))) = 0 then (g_X11_reachByQueue_ok x (a1 &&& 7) ((a1 >>> ((3 : Int32) &&& 31)) &&& 7)) else (g_X11_reachByQueue_ok x (a1 &&& 7) ((a1 >>> ((3 : Int32) &&& 31)) &&& 7))
set_option maxRecDepth 100000 in
set_option maxHeartbeats 4000000 in
theorem m_X11_isReachConsistent {x : kK} {r : kH} {a1 : Int32} : kMet kX11_isReachConsistent false 0 0 [.ref 0, .int a1] (kTp (kHc x) r) 130 (kRt (some (.int (f_X11_isReachConsistent x a1))) (kTp (kHc (g_X11_isReachConsistent x a1)) r) 130) := by
  refine kMet.in (by decide) rfl rfl _ rfl ?_
  refine k_iload_n (i := 1) dX11_isReachConsistent_0 (rfl : 0 + 1 = 1) rfl rfl ?_
  refine k_bipush (v := 7) dX11_isReachConsistent_1 (rfl : 1 + 2 = 3) (by decide) ?_
  refine k_iand dX11_isReachConsistent_3 (rfl : 3 + 1 = 4) ?_
  refine k_istore_n (i := 2) dX11_isReachConsistent_4 (rfl : 4 + 1 = 5) rfl (Nat.le_of_ble_eq_true rfl) ?_
  refine k_ls (ls2 := [.ref 0, .int a1, .int (a1 &&& 7), .retAddr 0]) rfl ?_
  refine k_iload_n (i := 1) dX11_isReachConsistent_5 (rfl : 5 + 1 = 6) rfl rfl ?_
  refine k_iconst (v := 3) dX11_isReachConsistent_6 (rfl : 6 + 1 = 7) (by decide) ?_
  refine k_ishr dX11_isReachConsistent_7 (rfl : 7 + 1 = 8) ?_
  refine k_bipush (v := 7) dX11_isReachConsistent_8 (rfl : 8 + 2 = 10) (by decide) ?_
  refine k_iand dX11_isReachConsistent_10 (rfl : 10 + 1 = 11) ?_
  refine k_istore_n (i := 3) dX11_isReachConsistent_11 (rfl : 11 + 1 = 12) rfl (Nat.le_of_ble_eq_true rfl) ?_
  refine k_ls (ls2 := [.ref 0, .int a1, .int (a1 &&& 7), .int ((a1 >>> ((3 : Int32) &&& 31)) &&& 7)]) rfl ?_
  refine k_aload_n (i := 0) dX11_isReachConsistent_12 (rfl : 12 + 1 = 13) rfl rfl ?_
  refine k_iload_n (i := 2) dX11_isReachConsistent_13 (rfl : 13 + 1 = 14) rfl rfl ?_
  refine k_iload_n (i := 3) dX11_isReachConsistent_14 (rfl : 14 + 1 = 15) rfl rfl ?_
  refine k_callVd2 cv_X11_502 ⟨Nat.le_of_ble_eq_true rfl, Nat.le_of_ble_eq_true rfl⟩ (m_X11_reach_ok ic_and) dX11_isReachConsistent_15 (rfl : 15 + 3 = 18) (Nat.le_of_ble_eq_true rfl) rfl rfl rfl ⟨Nat.le_of_ble_eq_true rfl, Nat.le_of_ble_eq_true rfl⟩ ?_
  refine k_aload_n (i := 0) dX11_isReachConsistent_18 (rfl : 18 + 1 = 19) rfl rfl ?_
  refine k_iload_n (i := 2) dX11_isReachConsistent_19 (rfl : 19 + 1 = 20) rfl rfl ?_
  refine k_iload_n (i := 3) dX11_isReachConsistent_20 (rfl : 20 + 1 = 21) rfl rfl ?_
  refine k_callVd2 cv_X11_506 ⟨Nat.le_of_ble_eq_true rfl, Nat.le_of_ble_eq_true rfl⟩ (m_X11_reachByQueue_ok ic_and) dX11_isReachConsistent_21 (rfl : 21 + 3 = 24) (Nat.le_of_ble_eq_true rfl) rfl rfl rfl ⟨Nat.le_of_ble_eq_true rfl, Nat.le_of_ble_eq_true rfl⟩ ?_
  refine k_lcmp dX11_isReachConsistent_24 (rfl : 24 + 1 = 25) ?_
  refine k_if_ne (tgt := 32) dX11_isReachConsistent_25 (rfl : 25 + 3 = 28) (by decide) (fun b25 => ?_) (fun b25 => ?_)
  · refine k_iconst (v := 0) dX11_isReachConsistent_32 (rfl : 32 + 1 = 33) (by decide) ?_
    refine k_iret rfl rfl dX11_isReachConsistent_33 (Nat.le_of_ble_eq_true rfl) (Nat.le_of_ble_eq_true rfl) ?_
    exact kRt_of (congrArg (fun z => some (Value.int z)) (Eq.symm (if_neg (show ¬ ((lg_cmp (f_X11_reach_ok x (a1 &&& 7) ((a1 >>> ((3 : Int32) &&& 31)) &&& 7)) (f_X11_reachByQueue_ok x (a1 &&& 7) ((a1 >>> ((3 : Int32) &&& 31)) &&& 7))) = 0) from b25)))) (congrArg (fun z => kTp (kHc z) r) (Eq.symm (if_neg (show ¬ ((lg_cmp (f_X11_reach_ok x (a1 &&& 7) ((a1 >>> ((3 : Int32) &&& 31)) &&& 7)) (f_X11_reachByQueue_ok x (a1 &&& 7) ((a1 >>> ((3 : Int32) &&& 31)) &&& 7))) = 0) from b25))))
  · refine k_iconst (v := 1) dX11_isReachConsistent_28 (rfl : 28 + 1 = 29) (by decide) ?_
    refine k_goto (tgt := 33) dX11_isReachConsistent_29 (by decide) ?_
    refine k_iret rfl rfl dX11_isReachConsistent_33 (Nat.le_of_ble_eq_true rfl) (Nat.le_of_ble_eq_true rfl) ?_
    exact kRt_of (congrArg (fun z => some (Value.int z)) (Eq.symm (if_pos (show (lg_cmp (f_X11_reach_ok x (a1 &&& 7) ((a1 >>> ((3 : Int32) &&& 31)) &&& 7)) (f_X11_reachByQueue_ok x (a1 &&& 7) ((a1 >>> ((3 : Int32) &&& 31)) &&& 7))) = 0 from b25)))) (congrArg (fun z => kTp (kHc z) r) (Eq.symm (if_pos (show (lg_cmp (f_X11_reach_ok x (a1 &&& 7) ((a1 >>> ((3 : Int32) &&& 31)) &&& 7)) (f_X11_reachByQueue_ok x (a1 &&& 7) ((a1 >>> ((3 : Int32) &&& 31)) &&& 7))) = 0 from b25))))
theorem cqI_co {a : Int32} {i k : Nat} : ∀ {x : kK} {j : Nat} {s : Int64} {w : Int32}, (cqI a i k x j s w).1.1 = x.1 ∧ (kChn x → kChn (cqI a i k x j s w).1) := by
  induction k with
  | zero => intro x j s w; exact ⟨rfl, id⟩
  | succ k ih =>
    intro x j s w
    rw [cqI]
    repeat' split
    all_goals exact ih
theorem cqL_co {a : Int32} {k : Nat} : ∀ {x : kK} {j : Nat} {s : Int64} {w : Int32}, (cqL a k x j s w).1.1 = x.1 ∧ (kChn x → kChn (cqL a k x j s w).1) := by
  induction k with
  | zero =>
    intro x j s w
    rw [cqL]
    split <;> exact ⟨rfl, id⟩
  | succ k ih =>
    intro x j s w
    rw [cqL]
    split
    · exact ⟨rfl, id⟩
    · have h1 := cqI_co (a := a) (i := j) (k := 4) (x := x) (j := 0) (s := s) (w := w)
      have h2 := ih (x := (cqI a j 4 x 0 s w).1) (j := j + 1) (s := (cqI a j 4 x 0 s w).2.1) (w := (cqI a j 4 x 0 s w).2.2)
      exact ⟨h2.1.trans h1.1, fun hc => h2.2 (h1.2 hc)⟩
theorem irc_co {x : kK} {a : Int32} : (g_X11_isReachConsistent x a).1 = x.1 ∧ (kChn x → kChn (g_X11_isReachConsistent x a)) := by
  unfold g_X11_isReachConsistent g_X11_reachByQueue_ok g_X11_connectedByQueue
  repeat' split
  all_goals first
    | exact ⟨rfl, id⟩
    | exact ⟨cqL_co.1, fun hc => cqL_co.2 hc⟩
theorem step_ch {x : kK} {d : Int32} (h : kChn x) : kChn (g_X4_step x d) := by
  unfold g_X4_step
  repeat' split
  all_goals exact h
theorem flA_ch {d : Int32} {k : Nat} : ∀ {x : kK} {f : Int32}, kChn x → kChn (flA d k x f).1 := by
  induction k with
  | zero => intro x f h; exact h
  | succ k ih =>
    intro x f h
    rw [flA]
    split
    · exact h
    · exact ih (step_ch h)
theorem flW_ch {j : Nat} {y : kK × Int32} (h : kChn y.1) : kChn (flW j y).1 := by
  unfold flW
  repeat' split
  all_goals first
    | exact h
    | exact step_ch h
theorem flP_ch {m : Nat} {t : Int32} {k : Nat} : ∀ {j : Nat} {d : Int32} {y : kK × Int32}, kChn y.1 → kChn (flP m t k j d y).1 := by
  induction k with
  | zero => intro j d y h; exact h
  | succ k ih =>
    intro j d y h
    rw [flP]
    split
    · exact h
    · exact ih (flW_ch (flA_ch h))
theorem fly0_ch {x : kK} {a : Int32} (h : kChn x) : kChn (fly0 x a).1 := by
  unfold fly0
  exact flP_ch h
theorem flE_ch {y : kK × Int32} (h : kChn y.1) : kChn (flE y) := h
theorem fly_ch {x : kK} {a : Int32} (h : kChn x) : kChn (g_X4_fly x a) := by
  unfold g_X4_fly
  exact flE_ch (fly0_ch h)
theorem stL_co {c : Int32} {k : Nat} : ∀ {x : kK} {j : Nat} {s : Int64}, (stL c k x j s).1.1 = x.1 ∧ (kChn x → kChn (stL c k x j s).1) := by
  induction k with
  | zero => intro x j s; exact ⟨rfl, id⟩
  | succ k ih =>
    intro x j s
    rw [stL]
    split
    all_goals exact ⟨ih.1.trans fly_ok.2, fun h => ih.2 (fly_ch h)⟩
theorem fb_co {x : kK} {a : Int32} : (g_X11_flightBits_ok x a).1 = x.1 ∧ (kChn x → kChn (g_X11_flightBits_ok x a)) := by
  unfold g_X11_flightBits_ok
  exact ⟨fly_ok.2, fly_ch⟩
theorem sbL_co {c : Int32} {k : Nat} : ∀ {x : kK} {j : Nat} {s : Int64}, (sbL c k x j s).1.1 = x.1 ∧ (kChn x → kChn (sbL c k x j s).1) := by
  induction k with
  | zero => intro x j s; exact ⟨rfl, id⟩
  | succ k ih =>
    intro x j s
    rw [sbL]
    exact ⟨ih.1.trans fb_co.1, fun h => ih.2 (fb_co.2 h)⟩
theorem sv_co {x : kK} {a : Int32} : (g_X11_servingThrows_ok x a).1 = x.1 ∧ (kChn x → kChn (g_X11_servingThrows_ok x a)) := by
  unfold g_X11_servingThrows_ok
  exact stL_co
theorem sw_co {x : kK} {a : Int32} : (g_X11_servingThrowsBySets_ok x a).1 = x.1 ∧ (kChn x → kChn (g_X11_servingThrowsBySets_ok x a)) := by
  unfold g_X11_servingThrowsBySets_ok
  exact sbL_co
theorem pa_nI {c : Int32} {j : Nat} (h : j < c.toNatClampNeg) : ¬ b2i (decide (0 ≤ nI j ∧ nI j < c)) = 0 := by
  intro h2
  have hl := cl_lt c
  refine b2i_eq h2 ⟨?_, ?_⟩
  · exact nI_le (a := 0) (b := j) (by omega) (by omega)
  · rcases Classical.em (c ≤ nI j) with q | q
    · exact absurd q (cl_nle h)
    · simp only [Int32.lt_iff_toInt_lt, Int32.le_iff_toInt_le] at *
      omega
