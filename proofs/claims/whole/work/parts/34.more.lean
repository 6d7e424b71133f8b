theorem put_core {x : kK} {c : Int32} : (g_X8_put x c).1 = x.1 := by unfold g_X8_put; split <;> rfl
theorem pnL_core {a : Int32} {k : Nat} : ∀ {x : kK} {j : Nat} {f : Int32}, (pnL a k x j f).1 = x.1 := by
  induction k with
  | zero => intro x j f; rfl
  | succ k ih =>
    intro x j f
    rw [pnL]
    repeat' split
    all_goals first
      | exact ih
      | exact ih.trans put_core
theorem ln_0 {x : kK} : kLn (kkS x 7 0) := ⟨0, by omega, rfl⟩
def drL (a : Int32) : Nat → kK → Nat → kK
  | 0, x, j => x
  | k + 1, x, j => (drL a k (g_X8_put x (f_X10_signOf x (f_X11_cellAt (nI j) a))) (j + 1))
set_option maxRecDepth 100000 in
set_option maxHeartbeats 4000000 in
theorem ldrL {r : kH} {Q : kQ} {a : Int32}  : ∀ (k : Nat) (x : kK) (j : Nat), j + k = 8 → kIv (x.1 0) → kLn x → (∀ (z2 : Value), kEv kX11_describeRow (kRm kX11_describeRow 0 0) (kFm false 0 0 (Q)) false 63 [.ref 0, .int a, z2] [] (kTp (kHc (drL a k x j)) r) 130 0 0) → kEv kX11_describeRow (kRm kX11_describeRow 0 0) (kFm false 0 0 (Q)) false 29 [.ref 0, .int a, .int (nI j)] [] (kTp (kHc x) r) 130 0 0 := by
  intro k
  induction k with
  | zero =>
    intro x j hj iv hl hx
    refine k_iload_n (i := 2) dX11_describeRow_29 (rfl : 29 + 1 = 30) rfl rfl ?_
    refine k_bipush (v := 8) dX11_describeRow_30 (rfl : 30 + 2 = 32) (by decide) ?_
    refine k_icmp_ge (tgt := 63) dX11_describeRow_32 (rfl : 32 + 3 = 35) (by decide) (fun b32 => ?_) (fun b32 => by exact absurd (nI_le (a := 8) (b := j) (by omega) (by omega)) b32)
    rw [drL] at hx
    exact hx _
  | succ k ih =>
    intro x j hj iv hl hx
    refine k_iload_n (i := 2) dX11_describeRow_29 (rfl : 29 + 1 = 30) rfl rfl ?_
    refine k_bipush (v := 8) dX11_describeRow_30 (rfl : 30 + 2 = 32) (by decide) ?_
    refine k_icmp_ge (tgt := 63) dX11_describeRow_32 (rfl : 32 + 3 = 35) (by decide) (fun b32 => by exact absurd b32 (nI_ge (a := j) (b := 8) (by omega) (by decide))) (fun b32 => ?_)
    refine k_aload_n (i := 0) dX11_describeRow_35 (rfl : 35 + 1 = 36) rfl rfl ?_
    refine k_get 11 7 fg_X11_53 dX11_describeRow_36 (rfl : 36 + 3 = 39) (Nat.le_of_ble_eq_true rfl) rfl rfl ?_
    refine k_aload_n (i := 0) dX11_describeRow_39 (rfl : 39 + 1 = 40) rfl rfl ?_
    refine k_get 11 0 fg_X11_12 dX11_describeRow_40 (rfl : 40 + 3 = 43) (Nat.le_of_ble_eq_true rfl) rfl rfl ?_
    refine k_get 9 0 fg_X11_100 dX11_describeRow_43 (rfl : 43 + 3 = 46) (Nat.le_of_ble_eq_true rfl) rfl rfl ?_
    refine k_iload_n (i := 2) dX11_describeRow_46 (rfl : 46 + 1 = 47) rfl rfl ?_
    refine k_iload_n (i := 1) dX11_describeRow_47 (rfl : 47 + 1 = 48) rfl rfl ?_
    refine k_callSd2 cv_X11_121 ⟨Nat.le_of_ble_eq_true rfl, Nat.le_of_ble_eq_true rfl⟩ (m_X11_cellAt) dX11_describeRow_48 (rfl : 48 + 3 = 51) rfl ⟨Nat.le_of_ble_eq_true rfl, Nat.le_of_ble_eq_true rfl⟩ ?_
    refine k_callVd1 cv_X11_385 ⟨Nat.le_of_ble_eq_true rfl, Nat.le_of_ble_eq_true rfl⟩ (m_X10_signOf iv) dX11_describeRow_51 (rfl : 51 + 3 = 54) (Nat.le_of_ble_eq_true rfl) rfl rfl rfl ⟨Nat.le_of_ble_eq_true rfl, Nat.le_of_ble_eq_true rfl⟩ ?_
    refine k_callVv1 cv_X11_389 ⟨Nat.le_of_ble_eq_true rfl, Nat.le_of_ble_eq_true rfl⟩ (m_X8_put hl) dX11_describeRow_54 (rfl : 54 + 3 = 57) (Nat.le_of_ble_eq_true rfl) rfl rfl rfl ⟨Nat.le_of_ble_eq_true rfl, Nat.le_of_ble_eq_true rfl⟩ ?_
    refine k_iinc (i := 2) (v := (nI (j + 1))) dX11_describeRow_57 (rfl : 57 + 3 = 60) rfl (Nat.le_of_ble_eq_true rfl) (nI_1 _) ?_
    refine k_ls (ls2 := [.ref 0, .int a, .int (nI (j + 1))]) rfl ?_
    refine k_goto (tgt := 29) dX11_describeRow_60 (by decide) ?_
    rw [drL] at hx
    exact ih (g_X8_put x (f_X10_signOf x (f_X11_cellAt (nI j) a))) (j + 1) (by omega) (by rw [put_core]; exact iv) (put_ln hl) hx
def o_X11_describeRow (x : kK) (a1 : Int32) : kOut := if (f_X11_isCell 0 a1) = 0 then (.inr "java/lang/IndexOutOfBoundsException") else (.inl (some (.int ((drL a1 8 (kkS x 7 0) 0).2.1 7))))
def g_X11_describeRow (x : kK) (a1 : Int32) : kK := if (f_X11_isCell 0 a1) = 0 then x else (drL a1 8 (kkS x 7 0) 0)
set_option maxRecDepth 100000 in
set_option maxHeartbeats 4000000 in
theorem m_X11_describeRow {x : kK} {r : kH} {a1 : Int32} (iv : kIv (x.1 0)) : kMet kX11_describeRow false 1 6 [.ref 0, .int a1] (kTp (kHc x) r) 130 (kRo (o_X11_describeRow x a1) (kTp (kHc (g_X11_describeRow x a1)) r) 130) := by
  refine kMet.in (by decide) rfl rfl _ rfl ?_
  refine k_iconst (v := 0) dX11_describeRow_0 (rfl : 0 + 1 = 1) (by decide) ?_
  refine k_iload_n (i := 1) dX11_describeRow_1 (rfl : 1 + 1 = 2) rfl rfl ?_
  refine k_callSd2 cv_X11_117 ⟨Nat.le_of_ble_eq_true rfl, Nat.le_of_ble_eq_true rfl⟩ (m_X11_isCell) dX11_describeRow_2 (rfl : 2 + 3 = 5) rfl ⟨Nat.le_of_ble_eq_true rfl, Nat.le_of_ble_eq_true rfl⟩ ?_
  refine k_if_ne (tgt := 19) dX11_describeRow_5 (rfl : 5 + 3 = 8) (by decide) (fun b5 => ?_) (fun b5 => ?_)
  · refine k_aload_n (i := 0) dX11_describeRow_19 (rfl : 19 + 1 = 20) rfl rfl ?_
    refine k_get 11 7 fg_X11_53 dX11_describeRow_20 (rfl : 20 + 3 = 23) (Nat.le_of_ble_eq_true rfl) rfl rfl ?_
    refine k_iconst (v := 0) dX11_describeRow_23 (rfl : 23 + 1 = 24) (by decide) ?_
    refine k_put 8 1 fp_X11_384 dX11_describeRow_24 (rfl : 24 + 3 = 27) (Nat.le_of_ble_eq_true rfl) rfl (Nat.le_of_ble_eq_true rfl) rfl rfl ?_
    refine kf_C7 (v := 0) rfl ?_
    refine k_iconst (v := 0) dX11_describeRow_27 (rfl : 27 + 1 = 28) (by decide) ?_
    refine k_istore_n (i := 2) dX11_describeRow_28 (rfl : 28 + 1 = 29) rfl (Nat.le_of_ble_eq_true rfl) ?_
    refine k_ls (ls2 := [.ref 0, .int a1, .int 0]) rfl ?_
    refine ldrL (a := a1) 8 (kkS x 7 0) 0 (by omega) iv ln_0 (fun z2 => ?_)
    generalize hw29 : (drL a1 8 (kkS x 7 0) 0) = w29
    refine k_aload_n (i := 0) dX11_describeRow_63 (rfl : 63 + 1 = 64) rfl rfl ?_
    refine k_get 11 7 fg_X11_53 dX11_describeRow_64 (rfl : 64 + 3 = 67) (Nat.le_of_ble_eq_true rfl) rfl rfl ?_
    refine k_get 8 1 fg_X11_384 dX11_describeRow_67 (rfl : 67 + 3 = 70) (Nat.le_of_ble_eq_true rfl) rfl rfl ?_
    refine k_iret rfl rfl dX11_describeRow_70 (Nat.le_of_ble_eq_true rfl) (Nat.le_of_ble_eq_true rfl) ?_
    subst hw29
    exact kRo_of (Eq.symm (if_neg (show ¬ ((f_X11_isCell 0 a1) = 0) from b5))) (congrArg (fun z => kTp (kHc z) r) (Eq.symm (if_neg (show ¬ ((f_X11_isCell 0 a1) = 0) from b5))))
  · refine k_throwW th_X11_72_76 tx_X11_382 rfl dX11_describeRow_8 dX11_describeRow_11 dX11_describeRow_12 dX11_describeRow_15 dX11_describeRow_18 (Nat.le_of_ble_eq_true rfl) (Nat.le_of_ble_eq_true rfl) ⟨(Nat.le_of_ble_eq_true rfl), (Nat.le_of_ble_eq_true rfl)⟩ (Nat.le_of_ble_eq_true rfl) (Nat.le_of_ble_eq_true rfl) ?_
    exact kRo_of (Eq.symm (if_pos (show (f_X11_isCell 0 a1) = 0 from b5))) (congrArg (fun z => kTp (kHc z) r) (Eq.symm (if_pos (show (f_X11_isCell 0 a1) = 0 from b5))))
def o_X11_describePlea (x : kK) (a1 : Int32) : kOut := if (f_X3_hasPlea x a1) = 0 then (.inr "java/lang/IndexOutOfBoundsException") else (if (f_X3_canBeHeard (pnL (f_X3_lastHour (g_X8_put (pnL ((((g_X8_put (pnL ((((g_X8_put (kkS x 7 0) 112).1 0).2.2 1) (Int32.toNatClampNeg a1)) 10 (g_X8_put (kkS x 7 0) 112) 0 0) 58).1 0).2.2 2) (Int32.toNatClampNeg a1)) 10 (g_X8_put (pnL ((((g_X8_put (kkS x 7 0) 112).1 0).2.2 1) (Int32.toNatClampNeg a1)) 10 (g_X8_put (kkS x 7 0) 112) 0 0) 58) 0 0) 45) a1) 10 (g_X8_put (pnL ((((g_X8_put (pnL ((((g_X8_put (kkS x 7 0) 112).1 0).2.2 1) (Int32.toNatClampNeg a1)) 10 (g_X8_put (kkS x 7 0) 112) 0 0) 58).1 0).2.2 2) (Int32.toNatClampNeg a1)) 10 (g_X8_put (pnL ((((g_X8_put (kkS x 7 0) 112).1 0).2.2 1) (Int32.toNatClampNeg a1)) 10 (g_X8_put (kkS x 7 0) 112) 0 0) 58) 0 0) 45) 0 0) a1 (((pnL (f_X3_lastHour (g_X8_put (pnL ((((g_X8_put (pnL ((((g_X8_put (kkS x 7 0) 112).1 0).2.2 1) (Int32.toNatClampNeg a1)) 10 (g_X8_put (kkS x 7 0) 112) 0 0) 58).1 0).2.2 2) (Int32.toNatClampNeg a1)) 10 (g_X8_put (pnL ((((g_X8_put (kkS x 7 0) 112).1 0).2.2 1) (Int32.toNatClampNeg a1)) 10 (g_X8_put (kkS x 7 0) 112) 0 0) 58) 0 0) 45) a1) 10 (g_X8_put (pnL ((((g_X8_put (pnL ((((g_X8_put (kkS x 7 0) 112).1 0).2.2 1) (Int32.toNatClampNeg a1)) 10 (g_X8_put (kkS x 7 0) 112) 0 0) 58).1 0).2.2 2) (Int32.toNatClampNeg a1)) 10 (g_X8_put (pnL ((((g_X8_put (kkS x 7 0) 112).1 0).2.2 1) (Int32.toNatClampNeg a1)) 10 (g_X8_put (kkS x 7 0) 112) 0 0) 58) 0 0) 45) 0 0).1 0).2.1 4)) = 0 then (.inl (some (.int ((pnL (f_X3_lastHour (g_X8_put (pnL ((((g_X8_put (pnL ((((g_X8_put (kkS x 7 0) 112).1 0).2.2 1) (Int32.toNatClampNeg a1)) 10 (g_X8_put (kkS x 7 0) 112) 0 0) 58).1 0).2.2 2) (Int32.toNatClampNeg a1)) 10 (g_X8_put (pnL ((((g_X8_put (kkS x 7 0) 112).1 0).2.2 1) (Int32.toNatClampNeg a1)) 10 (g_X8_put (kkS x 7 0) 112) 0 0) 58) 0 0) 45) a1) 10 (g_X8_put (pnL ((((g_X8_put (pnL ((((g_X8_put (kkS x 7 0) 112).1 0).2.2 1) (Int32.toNatClampNeg a1)) 10 (g_X8_put (kkS x 7 0) 112) 0 0) 58).1 0).2.2 2) (Int32.toNatClampNeg a1)) 10 (g_X8_put (pnL ((((g_X8_put (kkS x 7 0) 112).1 0).2.2 1) (Int32.toNatClampNeg a1)) 10 (g_X8_put (kkS x 7 0) 112) 0 0) 58) 0 0) 45) 0 0).2.1 7)))) else (.inl (some (.int ((g_X8_put (pnL (f_X3_lastHour (g_X8_put (pnL ((((g_X8_put (pnL ((((g_X8_put (kkS x 7 0) 112).1 0).2.2 1) (Int32.toNatClampNeg a1)) 10 (g_X8_put (kkS x 7 0) 112) 0 0) 58).1 0).2.2 2) (Int32.toNatClampNeg a1)) 10 (g_X8_put (pnL ((((g_X8_put (kkS x 7 0) 112).1 0).2.2 1) (Int32.toNatClampNeg a1)) 10 (g_X8_put (kkS x 7 0) 112) 0 0) 58) 0 0) 45) a1) 10 (g_X8_put (pnL ((((g_X8_put (pnL ((((g_X8_put (kkS x 7 0) 112).1 0).2.2 1) (Int32.toNatClampNeg a1)) 10 (g_X8_put (kkS x 7 0) 112) 0 0) 58).1 0).2.2 2) (Int32.toNatClampNeg a1)) 10 (g_X8_put (pnL ((((g_X8_put (kkS x 7 0) 112).1 0).2.2 1) (Int32.toNatClampNeg a1)) 10 (g_X8_put (kkS x 7 0) 112) 0 0) 58) 0 0) 45) 0 0) 42).2.1 7)))))
def g_X11_describePlea (x : kK) (a1 : Int32) : kK := if (f_X3_hasPlea x a1) = 0 then x else (if (f_X3_canBeHeard (pnL (f_X3_lastHour (g_X8_put (pnL ((((g_X8_put (pnL ((((g_X8_put (kkS x 7 0) 112).1 0).2.2 1) (Int32.toNatClampNeg a1)) 10 (g_X8_put (kkS x 7 0) 112) 0 0) 58).1 0).2.2 2) (Int32.toNatClampNeg a1)) 10 (g_X8_put (pnL ((((g_X8_put (kkS x 7 0) 112).1 0).2.2 1) (Int32.toNatClampNeg a1)) 10 (g_X8_put (kkS x 7 0) 112) 0 0) 58) 0 0) 45) a1) 10 (g_X8_put (pnL ((((g_X8_put (pnL ((((g_X8_put (kkS x 7 0) 112).1 0).2.2 1) (Int32.toNatClampNeg a1)) 10 (g_X8_put (kkS x 7 0) 112) 0 0) 58).1 0).2.2 2) (Int32.toNatClampNeg a1)) 10 (g_X8_put (pnL ((((g_X8_put (kkS x 7 0) 112).1 0).2.2 1) (Int32.toNatClampNeg a1)) 10 (g_X8_put (kkS x 7 0) 112) 0 0) 58) 0 0) 45) 0 0) a1 (((pnL (f_X3_lastHour (g_X8_put (pnL ((((g_X8_put (pnL ((((g_X8_put (kkS x 7 0) 112).1 0).2.2 1) (Int32.toNatClampNeg a1)) 10 (g_X8_put (kkS x 7 0) 112) 0 0) 58).1 0).2.2 2) (Int32.toNatClampNeg a1)) 10 (g_X8_put (pnL ((((g_X8_put (kkS x 7 0) 112).1 0).2.2 1) (Int32.toNatClampNeg a1)) 10 (g_X8_put (kkS x 7 0) 112) 0 0) 58) 0 0) 45) a1) 10 (g_X8_put (pnL ((((g_X8_put (pnL ((((g_X8_put (kkS x 7 0) 112).1 0).2.2 1) (Int32.toNatClampNeg a1)) 10 (g_X8_put (kkS x 7 0) 112) 0 0) 58).1 0).2.2 2) (Int32.toNatClampNeg a1)) 10 (g_X8_put (pnL ((((g_X8_put (kkS x 7 0) 112).1 0).2.2 1) (Int32.toNatClampNeg a1)) 10 (g_X8_put (kkS x 7 0) 112) 0 0) 58) 0 0) 45) 0 0).1 0).2.1 4)) = 0 then (pnL (f_X3_lastHour (g_X8_put (pnL ((((g_X8_put (pnL ((((g_X8_put (kkS x 7 0) 112).1 0).2.2 1) (Int32.toNatClampNeg a1)) 10 (g_X8_put (kkS x 7 0) 112) 0 0) 58).1 0).2.2 2) (Int32.toNatClampNeg a1)) 10 (g_X8_put (pnL ((((g_X8_put (kkS x 7 0) 112).1 0).2.2 1) (Int32.toNatClampNeg a1)) 10 (g_X8_put (kkS x 7 0) 112) 0 0) 58) 0 0) 45) a1) 10 (g_X8_put (pnL ((((g_X8_put (pnL ((((g_X8_put (kkS x 7 0) 112).1 0).2.2 1) (Int32.toNatClampNeg a1)) 10 (g_X8_put (kkS x 7 0) 112) 0 0) 58).1 0).2.2 2) (Int32.toNatClampNeg a1)) 10 (g_X8_put (pnL ((((g_X8_put (kkS x 7 0) 112).1 0).2.2 1) (Int32.toNatClampNeg a1)) 10 (g_X8_put (kkS x 7 0) 112) 0 0) 58) 0 0) 45) 0 0) else (g_X8_put (pnL (f_X3_lastHour (g_X8_put (pnL ((((g_X8_put (pnL ((((g_X8_put (kkS x 7 0) 112).1 0).2.2 1) (Int32.toNatClampNeg a1)) 10 (g_X8_put (kkS x 7 0) 112) 0 0) 58).1 0).2.2 2) (Int32.toNatClampNeg a1)) 10 (g_X8_put (pnL ((((g_X8_put (kkS x 7 0) 112).1 0).2.2 1) (Int32.toNatClampNeg a1)) 10 (g_X8_put (kkS x 7 0) 112) 0 0) 58) 0 0) 45) a1) 10 (g_X8_put (pnL ((((g_X8_put (pnL ((((g_X8_put (kkS x 7 0) 112).1 0).2.2 1) (Int32.toNatClampNeg a1)) 10 (g_X8_put (kkS x 7 0) 112) 0 0) 58).1 0).2.2 2) (Int32.toNatClampNeg a1)) 10 (g_X8_put (pnL ((((g_X8_put (kkS x 7 0) 112).1 0).2.2 1) (Int32.toNatClampNeg a1)) 10 (g_X8_put (kkS x 7 0) 112) 0 0) 58) 0 0) 45) 0 0) 42))
set_option maxRecDepth 100000 in
set_option maxHeartbeats 4000000 in
theorem m_X11_describePlea {x : kK} {r : kH} {a1 : Int32} (iv : kIv (x.1 0)) : kMet kX11_describePlea false 1 6 [.ref 0, .int a1] (kTp (kHc x) r) 130 (kRo (o_X11_describePlea x a1) (kTp (kHc (g_X11_describePlea x a1)) r) 130) := by
  refine kMet.in (by decide) rfl rfl _ rfl ?_
  refine k_aload_n (i := 0) dX11_describePlea_0 (rfl : 0 + 1 = 1) rfl rfl ?_
  refine k_get 11 0 fg_X11_12 dX11_describePlea_1 (rfl : 1 + 3 = 4) (Nat.le_of_ble_eq_true rfl) rfl rfl ?_
  refine k_get 9 1 fg_X11_260 dX11_describePlea_4 (rfl : 4 + 3 = 7) (Nat.le_of_ble_eq_true rfl) rfl rfl ?_
  refine k_astore_n (i := 2) dX11_describePlea_7 (rfl : 7 + 1 = 8) rfl (Nat.le_of_ble_eq_true rfl) ?_
  refine k_ls (ls2 := [.ref 0, .int a1, .ref 4]) rfl ?_
  refine k_aload_n (i := 2) dX11_describePlea_8 (rfl : 8 + 1 = 9) rfl rfl ?_
  refine k_iload_n (i := 1) dX11_describePlea_9 (rfl : 9 + 1 = 10) rfl rfl ?_
  refine k_callVd1 cv_X11_275 ⟨Nat.le_of_ble_eq_true rfl, Nat.le_of_ble_eq_true rfl⟩ (m_X3_hasPlea) dX11_describePlea_10 (rfl : 10 + 3 = 13) (Nat.le_of_ble_eq_true rfl) rfl rfl rfl ⟨Nat.le_of_ble_eq_true rfl, Nat.le_of_ble_eq_true rfl⟩ ?_
  refine k_if_ne (tgt := 27) dX11_describePlea_13 (rfl : 13 + 3 = 16) (by decide) (fun b13 => ?_) (fun b13 => ?_)
  · refine k_aload_n (i := 0) dX11_describePlea_27 (rfl : 27 + 1 = 28) rfl rfl ?_
    refine k_get 11 7 fg_X11_53 dX11_describePlea_28 (rfl : 28 + 3 = 31) (Nat.le_of_ble_eq_true rfl) rfl rfl ?_
    refine k_iconst (v := 0) dX11_describePlea_31 (rfl : 31 + 1 = 32) (by decide) ?_
    refine k_put 8 1 fp_X11_384 dX11_describePlea_32 (rfl : 32 + 3 = 35) (Nat.le_of_ble_eq_true rfl) rfl (Nat.le_of_ble_eq_true rfl) rfl rfl ?_
    refine kf_C7 (v := 0) rfl ?_
    refine k_aload_n (i := 0) dX11_describePlea_35 (rfl : 35 + 1 = 36) rfl rfl ?_
    refine k_get 11 7 fg_X11_53 dX11_describePlea_36 (rfl : 36 + 3 = 39) (Nat.le_of_ble_eq_true rfl) rfl rfl ?_
    refine k_bipush (v := 112) dX11_describePlea_39 (rfl : 39 + 2 = 41) (by decide) ?_
    refine k_callVv1 cv_X11_389 ⟨Nat.le_of_ble_eq_true rfl, Nat.le_of_ble_eq_true rfl⟩ (m_X8_put ln_0) dX11_describePlea_41 (rfl : 41 + 3 = 44) (Nat.le_of_ble_eq_true rfl) rfl rfl rfl ⟨Nat.le_of_ble_eq_true rfl, Nat.le_of_ble_eq_true rfl⟩ ?_
    generalize hg1 : (g_X8_put (kkS x 7 0) 112) = y1
    have ly1 : kLn y1 := by rw [← hg1]; exact put_ln ln_0
    refine k_aload_n (i := 0) dX11_describePlea_44 (rfl : 44 + 1 = 45) rfl rfl ?_
    refine k_get 11 7 fg_X11_53 dX11_describePlea_45 (rfl : 45 + 3 = 48) (Nat.le_of_ble_eq_true rfl) rfl rfl ?_
    refine k_aload_n (i := 2) dX11_describePlea_48 (rfl : 48 + 1 = 49) rfl rfl ?_
    refine k_get 3 3 fg_X11_280 dX11_describePlea_49 (rfl : 49 + 3 = 52) (Nat.le_of_ble_eq_true rfl) rfl rfl ?_
    refine k_iload_n (i := 1) dX11_describePlea_52 (rfl : 52 + 1 = 53) rfl rfl ?_
    refine k_iald dX11_describePlea_53 (rfl : 53 + 1 = 54) (Nat.le_of_ble_eq_true rfl) rfl (kIv_pc iv b13) ?_
    refine k_callVv1 cv_X11_390 ⟨Nat.le_of_ble_eq_true rfl, Nat.le_of_ble_eq_true rfl⟩ (m_X8_putNumber ly1) dX11_describePlea_54 (rfl : 54 + 3 = 57) (Nat.le_of_ble_eq_true rfl) rfl rfl rfl ⟨Nat.le_of_ble_eq_true rfl, Nat.le_of_ble_eq_true rfl⟩ ?_
    generalize hg2 : (pnL (((y1.1 0).2.2 1) (Int32.toNatClampNeg a1)) 10 y1 0 0) = y2
    have ly2 : kLn y2 := by rw [← hg2]; exact pnL_ln ly1
    refine k_aload_n (i := 0) dX11_describePlea_57 (rfl : 57 + 1 = 58) rfl rfl ?_
    refine k_get 11 7 fg_X11_53 dX11_describePlea_58 (rfl : 58 + 3 = 61) (Nat.le_of_ble_eq_true rfl) rfl rfl ?_
    refine k_bipush (v := 58) dX11_describePlea_61 (rfl : 61 + 2 = 63) (by decide) ?_
    refine k_callVv1 cv_X11_389 ⟨Nat.le_of_ble_eq_true rfl, Nat.le_of_ble_eq_true rfl⟩ (m_X8_put ly2) dX11_describePlea_63 (rfl : 63 + 3 = 66) (Nat.le_of_ble_eq_true rfl) rfl rfl rfl ⟨Nat.le_of_ble_eq_true rfl, Nat.le_of_ble_eq_true rfl⟩ ?_
    generalize hg3 : (g_X8_put y2 58) = y3
    have ly3 : kLn y3 := by rw [← hg3]; exact put_ln ly2
    refine k_aload_n (i := 0) dX11_describePlea_66 (rfl : 66 + 1 = 67) rfl rfl ?_
    refine k_get 11 7 fg_X11_53 dX11_describePlea_67 (rfl : 67 + 3 = 70) (Nat.le_of_ble_eq_true rfl) rfl rfl ?_
    refine k_aload_n (i := 2) dX11_describePlea_70 (rfl : 70 + 1 = 71) rfl rfl ?_
    refine k_get 3 4 fg_X11_282 dX11_describePlea_71 (rfl : 71 + 3 = 74) (Nat.le_of_ble_eq_true rfl) rfl rfl ?_
    refine k_iload_n (i := 1) dX11_describePlea_74 (rfl : 74 + 1 = 75) rfl rfl ?_
    refine k_iald dX11_describePlea_75 (rfl : 75 + 1 = 76) (Nat.le_of_ble_eq_true rfl) rfl (kIv_pc iv b13) ?_
    refine k_callVv1 cv_X11_390 ⟨Nat.le_of_ble_eq_true rfl, Nat.le_of_ble_eq_true rfl⟩ (m_X8_putNumber ly3) dX11_describePlea_76 (rfl : 76 + 3 = 79) (Nat.le_of_ble_eq_true rfl) rfl rfl rfl ⟨Nat.le_of_ble_eq_true rfl, Nat.le_of_ble_eq_true rfl⟩ ?_
    generalize hg4 : (pnL (((y3.1 0).2.2 2) (Int32.toNatClampNeg a1)) 10 y3 0 0) = y4
    have ly4 : kLn y4 := by rw [← hg4]; exact pnL_ln ly3
    refine k_aload_n (i := 0) dX11_describePlea_79 (rfl : 79 + 1 = 80) rfl rfl ?_
    refine k_get 11 7 fg_X11_53 dX11_describePlea_80 (rfl : 80 + 3 = 83) (Nat.le_of_ble_eq_true rfl) rfl rfl ?_
    refine k_bipush (v := 45) dX11_describePlea_83 (rfl : 83 + 2 = 85) (by decide) ?_
    refine k_callVv1 cv_X11_389 ⟨Nat.le_of_ble_eq_true rfl, Nat.le_of_ble_eq_true rfl⟩ (m_X8_put ly4) dX11_describePlea_85 (rfl : 85 + 3 = 88) (Nat.le_of_ble_eq_true rfl) rfl rfl rfl ⟨Nat.le_of_ble_eq_true rfl, Nat.le_of_ble_eq_true rfl⟩ ?_
    generalize hg5 : (g_X8_put y4 45) = y5
    have ly5 : kLn y5 := by rw [← hg5]; exact put_ln ly4
    refine k_aload_n (i := 0) dX11_describePlea_88 (rfl : 88 + 1 = 89) rfl rfl ?_
    refine k_get 11 7 fg_X11_53 dX11_describePlea_89 (rfl : 89 + 3 = 92) (Nat.le_of_ble_eq_true rfl) rfl rfl ?_
    refine k_aload_n (i := 2) dX11_describePlea_92 (rfl : 92 + 1 = 93) rfl rfl ?_
    refine k_iload_n (i := 1) dX11_describePlea_93 (rfl : 93 + 1 = 94) rfl rfl ?_
    refine k_callVd1 cv_X11_285 ⟨Nat.le_of_ble_eq_true rfl, Nat.le_of_ble_eq_true rfl⟩ (m_X3_lastHour (kIv_pc iv b13)) dX11_describePlea_94 (rfl : 94 + 3 = 97) (Nat.le_of_ble_eq_true rfl) rfl rfl rfl ⟨Nat.le_of_ble_eq_true rfl, Nat.le_of_ble_eq_true rfl⟩ ?_
    refine k_callVv1 cv_X11_390 ⟨Nat.le_of_ble_eq_true rfl, Nat.le_of_ble_eq_true rfl⟩ (m_X8_putNumber ly5) dX11_describePlea_97 (rfl : 97 + 3 = 100) (Nat.le_of_ble_eq_true rfl) rfl rfl rfl ⟨Nat.le_of_ble_eq_true rfl, Nat.le_of_ble_eq_true rfl⟩ ?_
    generalize hg6 : (pnL (f_X3_lastHour y5 a1) 10 y5 0 0) = y6
    have ly6 : kLn y6 := by rw [← hg6]; exact pnL_ln ly5
    refine k_aload_n (i := 2) dX11_describePlea_100 (rfl : 100 + 1 = 101) rfl rfl ?_
    refine k_iload_n (i := 1) dX11_describePlea_101 (rfl : 101 + 1 = 102) rfl rfl ?_
    refine k_aload_n (i := 2) dX11_describePlea_102 (rfl : 102 + 1 = 103) rfl rfl ?_
    refine k_get 3 0 fg_X11_309 dX11_describePlea_103 (rfl : 103 + 3 = 106) (Nat.le_of_ble_eq_true rfl) rfl rfl ?_
    refine k_callVd2 cv_X11_394 ⟨Nat.le_of_ble_eq_true rfl, Nat.le_of_ble_eq_true rfl⟩ (m_X3_canBeHeard (kIv_pc iv b13)) dX11_describePlea_106 (rfl : 106 + 3 = 109) (Nat.le_of_ble_eq_true rfl) rfl rfl rfl ⟨Nat.le_of_ble_eq_true rfl, Nat.le_of_ble_eq_true rfl⟩ ?_
    refine k_if_eq (tgt := 121) dX11_describePlea_109 (rfl : 109 + 3 = 112) (by decide) (fun b109 => ?_) (fun b109 => ?_)
    · refine k_aload_n (i := 0) dX11_describePlea_121 (rfl : 121 + 1 = 122) rfl rfl ?_
      refine k_get 11 7 fg_X11_53 dX11_describePlea_122 (rfl : 122 + 3 = 125) (Nat.le_of_ble_eq_true rfl) rfl rfl ?_
      refine k_get 8 1 fg_X11_384 dX11_describePlea_125 (rfl : 125 + 3 = 128) (Nat.le_of_ble_eq_true rfl) rfl rfl ?_
      refine k_iret rfl rfl dX11_describePlea_128 (Nat.le_of_ble_eq_true rfl) (Nat.le_of_ble_eq_true rfl) ?_
      subst hg6
      subst hg5
      subst hg4
      subst hg3
      subst hg2
      subst hg1
      exact kRo_of (Eq.symm (Eq.trans (if_neg (show ¬ ((f_X3_hasPlea x a1) = 0) from b13)) (if_pos (show (f_X3_canBeHeard (pnL (f_X3_lastHour (g_X8_put (pnL ((((g_X8_put (pnL ((((g_X8_put (kkS x 7 0) 112).1 0).2.2 1) (Int32.toNatClampNeg a1)) 10 (g_X8_put (kkS x 7 0) 112) 0 0) 58).1 0).2.2 2) (Int32.toNatClampNeg a1)) 10 (g_X8_put (pnL ((((g_X8_put (kkS x 7 0) 112).1 0).2.2 1) (Int32.toNatClampNeg a1)) 10 (g_X8_put (kkS x 7 0) 112) 0 0) 58) 0 0) 45) a1) 10 (g_X8_put (pnL ((((g_X8_put (pnL ((((g_X8_put (kkS x 7 0) 112).1 0).2.2 1) (Int32.toNatClampNeg a1)) 10 (g_X8_put (kkS x 7 0) 112) 0 0) 58).1 0).2.2 2) (Int32.toNatClampNeg a1)) 10 (g_X8_put (pnL ((((g_X8_put (kkS x 7 0) 112).1 0).2.2 1) (Int32.toNatClampNeg a1)) 10 (g_X8_put (kkS x 7 0) 112) 0 0) 58) 0 0) 45) 0 0) a1 (((pnL (f_X3_lastHour (g_X8_put (pnL ((((g_X8_put (pnL ((((g_X8_put (kkS x 7 0) 112).1 0).2.2 1) (Int32.toNatClampNeg a1)) 10 (g_X8_put (kkS x 7 0) 112) 0 0) 58).1 0).2.2 2) (Int32.toNatClampNeg a1)) 10 (g_X8_put (pnL ((((g_X8_put (kkS x 7 0) 112).1 0).2.2 1) (Int32.toNatClampNeg a1)) 10 (g_X8_put (kkS x 7 0) 112) 0 0) 58) 0 0) 45) a1) 10 (g_X8_put (pnL ((((g_X8_put (pnL ((((g_X8_put (kkS x 7 0) 112).1 0).2.2 1) (Int32.toNatClampNeg a1)) 10 (g_X8_put (kkS x 7 0) 112) 0 0) 58).1 0).2.2 2) (Int32.toNatClampNeg a1)) 10 (g_X8_put (pnL ((((g_X8_put (kkS x 7 0) 112).1 0).2.2 1) (Int32.toNatClampNeg a1)) 10 (g_X8_put (kkS x 7 0) 112) 0 0) 58) 0 0) 45) 0 0).1 0).2.1 4)) = 0 from b109)))) (congrArg (fun z => kTp (kHc z) r) (Eq.symm (Eq.trans (if_neg (show ¬ ((f_X3_hasPlea x a1) = 0) from b13)) (if_pos (show (f_X3_canBeHeard (pnL (f_X3_lastHour (g_X8_put (pnL ((((g_X8_put (pnL ((((g_X8_put (kkS x 7 0) 112).1 0).2.2 1) (Int32.toNatClampNeg a1)) 10 (g_X8_put (kkS x 7 0) 112) 0 0) 58).1 0).2.2 2) (Int32.toNatClampNeg a1)) 10 (g_X8_put (pnL ((((g_X8_put (kkS x 7 0) 112).1 0).2.2 1) (Int32.toNatClampNeg a1)) 10 (g_X8_put (kkS x 7 0) 112) 0 0) 58) 0 0) 45) a1) 10 (g_X8_put (pnL ((((g_X8_put (pnL ((((g_X8_put (kkS x 7 0) 112).1 0).2.2 1) (Int32.toNatClampNeg a1)) 10 (g_X8_put (kkS x 7 0) 112) 0 0) 58).1 0).2.2 2) (Int32.toNatClampNeg a1)) 10 (g_X8_put (pnL ((((g_X8_put (kkS x 7 0) 112).1 0).2.2 1) (Int32.toNatClampNeg a1)) 10 (g_X8_put (kkS x 7 0) 112) 0 0) 58) 0 0) 45) 0 0) a1 (((pnL (f_X3_lastHour (g_X8_put (pnL ((((g_X8_put (pnL ((((g_X8_put (kkS x 7 0) 112).1 0).2.2 1) (Int32.toNatClampNeg a1)) 10 (g_X8_put (kkS x 7 0) 112) 0 0) 58).1 0).2.2 2) (Int32.toNatClampNeg a1)) 10 (g_X8_put (pnL ((((g_X8_put (kkS x 7 0) 112).1 0).2.2 1) (Int32.toNatClampNeg a1)) 10 (g_X8_put (kkS x 7 0) 112) 0 0) 58) 0 0) 45) a1) 10 (g_X8_put (pnL ((((g_X8_put (pnL ((((g_X8_put (kkS x 7 0) 112).1 0).2.2 1) (Int32.toNatClampNeg a1)) 10 (g_X8_put (kkS x 7 0) 112) 0 0) 58).1 0).2.2 2) (Int32.toNatClampNeg a1)) 10 (g_X8_put (pnL ((((g_X8_put (kkS x 7 0) 112).1 0).2.2 1) (Int32.toNatClampNeg a1)) 10 (g_X8_put (kkS x 7 0) 112) 0 0) 58) 0 0) 45) 0 0).1 0).2.1 4)) = 0 from b109)))))
    · refine k_aload_n (i := 0) dX11_describePlea_112 (rfl : 112 + 1 = 113) rfl rfl ?_
      refine k_get 11 7 fg_X11_53 dX11_describePlea_113 (rfl : 113 + 3 = 116) (Nat.le_of_ble_eq_true rfl) rfl rfl ?_
      refine k_bipush (v := 42) dX11_describePlea_116 (rfl : 116 + 2 = 118) (by decide) ?_
      refine k_callVv1 cv_X11_389 ⟨Nat.le_of_ble_eq_true rfl, Nat.le_of_ble_eq_true rfl⟩ (m_X8_put ly6) dX11_describePlea_118 (rfl : 118 + 3 = 121) (Nat.le_of_ble_eq_true rfl) rfl rfl rfl ⟨Nat.le_of_ble_eq_true rfl, Nat.le_of_ble_eq_true rfl⟩ ?_
      generalize hg7 : (g_X8_put y6 42) = y7
      have ly7 : kLn y7 := by rw [← hg7]; exact put_ln ly6
      refine k_aload_n (i := 0) dX11_describePlea_121 (rfl : 121 + 1 = 122) rfl rfl ?_
      refine k_get 11 7 fg_X11_53 dX11_describePlea_122 (rfl : 122 + 3 = 125) (Nat.le_of_ble_eq_true rfl) rfl rfl ?_
      refine k_get 8 1 fg_X11_384 dX11_describePlea_125 (rfl : 125 + 3 = 128) (Nat.le_of_ble_eq_true rfl) rfl rfl ?_
      refine k_iret rfl rfl dX11_describePlea_128 (Nat.le_of_ble_eq_true rfl) (Nat.le_of_ble_eq_true rfl) ?_
      subst hg7
      subst hg6
      subst hg5
      subst hg4
      subst hg3
      subst hg2
      subst hg1
      exact kRo_of (Eq.symm (Eq.trans (if_neg (show ¬ ((f_X3_hasPlea x a1) = 0) from b13)) (if_neg (show ¬ ((f_X3_canBeHeard (pnL (f_X3_lastHour (g_X8_put (pnL ((((g_X8_put (pnL ((((g_X8_put (kkS x 7 0) 112).1 0).2.2 1) (Int32.toNatClampNeg a1)) 10 (g_X8_put (kkS x 7 0) 112) 0 0) 58).1 0).2.2 2) (Int32.toNatClampNeg a1)) 10 (g_X8_put (pnL ((((g_X8_put (kkS x 7 0) 112).1 0).2.2 1) (Int32.toNatClampNeg a1)) 10 (g_X8_put (kkS x 7 0) 112) 0 0) 58) 0 0) 45) a1) 10 (g_X8_put (pnL ((((g_X8_put (pnL ((((g_X8_put (kkS x 7 0) 112).1 0).2.2 1) (Int32.toNatClampNeg a1)) 10 (g_X8_put (kkS x 7 0) 112) 0 0) 58).1 0).2.2 2) (Int32.toNatClampNeg a1)) 10 (g_X8_put (pnL ((((g_X8_put (kkS x 7 0) 112).1 0).2.2 1) (Int32.toNatClampNeg a1)) 10 (g_X8_put (kkS x 7 0) 112) 0 0) 58) 0 0) 45) 0 0) a1 (((pnL (f_X3_lastHour (g_X8_put (pnL ((((g_X8_put (pnL ((((g_X8_put (kkS x 7 0) 112).1 0).2.2 1) (Int32.toNatClampNeg a1)) 10 (g_X8_put (kkS x 7 0) 112) 0 0) 58).1 0).2.2 2) (Int32.toNatClampNeg a1)) 10 (g_X8_put (pnL ((((g_X8_put (kkS x 7 0) 112).1 0).2.2 1) (Int32.toNatClampNeg a1)) 10 (g_X8_put (kkS x 7 0) 112) 0 0) 58) 0 0) 45) a1) 10 (g_X8_put (pnL ((((g_X8_put (pnL ((((g_X8_put (kkS x 7 0) 112).1 0).2.2 1) (Int32.toNatClampNeg a1)) 10 (g_X8_put (kkS x 7 0) 112) 0 0) 58).1 0).2.2 2) (Int32.toNatClampNeg a1)) 10 (g_X8_put (pnL ((((g_X8_put (kkS x 7 0) 112).1 0).2.2 1) (Int32.toNatClampNeg a1)) 10 (g_X8_put (kkS x 7 0) 112) 0 0) 58) 0 0) 45) 0 0).1 0).2.1 4)) = 0) from b109)))) (congrArg (fun z => kTp (kHc z) r) (Eq.symm (Eq.trans (if_neg (show ¬ ((f_X3_hasPlea x a1) = 0) from b13)) (if_neg (show ¬ ((f_X3_canBeHeard (pnL (f_X3_lastHour (g_X8_put (pnL ((((g_X8_put (pnL ((((g_X8_put (kkS x 7 0) 112).1 0).2.2 1) (Int32.toNatClampNeg a1)) 10 (g_X8_put (kkS x 7 0) 112) 0 0) 58).1 0).2.2 2) (Int32.toNatClampNeg a1)) 10 (g_X8_put (pnL ((((g_X8_put (kkS x 7 0) 112).1 0).2.2 1) (Int32.toNatClampNeg a1)) 10 (g_X8_put (kkS x 7 0) 112) 0 0) 58) 0 0) 45) a1) 10 (g_X8_put (pnL ((((g_X8_put (pnL ((((g_X8_put (kkS x 7 0) 112).1 0).2.2 1) (Int32.toNatClampNeg a1)) 10 (g_X8_put (kkS x 7 0) 112) 0 0) 58).1 0).2.2 2) (Int32.toNatClampNeg a1)) 10 (g_X8_put (pnL ((((g_X8_put (kkS x 7 0) 112).1 0).2.2 1) (Int32.toNatClampNeg a1)) 10 (g_X8_put (kkS x 7 0) 112) 0 0) 58) 0 0) 45) 0 0) a1 (((pnL (f_X3_lastHour (g_X8_put (pnL ((((g_X8_put (pnL ((((g_X8_put (kkS x 7 0) 112).1 0).2.2 1) (Int32.toNatClampNeg a1)) 10 (g_X8_put (kkS x 7 0) 112) 0 0) 58).1 0).2.2 2) (Int32.toNatClampNeg a1)) 10 (g_X8_put (pnL ((((g_X8_put (kkS x 7 0) 112).1 0).2.2 1) (Int32.toNatClampNeg a1)) 10 (g_X8_put (kkS x 7 0) 112) 0 0) 58) 0 0) 45) a1) 10 (g_X8_put (pnL ((((g_X8_put (pnL ((((g_X8_put (kkS x 7 0) 112).1 0).2.2 1) (Int32.toNatClampNeg a1)) 10 (g_X8_put (kkS x 7 0) 112) 0 0) 58).1 0).2.2 2) (Int32.toNatClampNeg a1)) 10 (g_X8_put (pnL ((((g_X8_put (kkS x 7 0) 112).1 0).2.2 1) (Int32.toNatClampNeg a1)) 10 (g_X8_put (kkS x 7 0) 112) 0 0) 58) 0 0) 45) 0 0).1 0).2.1 4)) = 0) from b109)))))
  · refine k_throwW th_X11_72_76 tx_X11_278 rfl dX11_describePlea_16 dX11_describePlea_19 dX11_describePlea_20 dX11_describePlea_23 dX11_describePlea_26 (Nat.le_of_ble_eq_true rfl) (Nat.le_of_ble_eq_true rfl) ⟨(Nat.le_of_ble_eq_true rfl), (Nat.le_of_ble_eq_true rfl)⟩ (Nat.le_of_ble_eq_true rfl) (Nat.le_of_ble_eq_true rfl) ?_
    exact kRo_of (Eq.symm (if_pos (show (f_X3_hasPlea x a1) = 0 from b13))) (congrArg (fun z => kTp (kHc z) r) (Eq.symm (if_pos (show (f_X3_hasPlea x a1) = 0 from b13))))
def f_X11_flightBits_ok (x : kK) (a1 : Int32) : Int64 := (ecL ((g_X4_fly x a1).2.2.1 0) (Int32.toNatClampNeg ((g_X4_fly x a1).2.1 2)) 1 0)
def g_X11_flightBits_ok (x : kK) (a1 : Int32) : kK := (g_X4_fly x a1)
set_option maxRecDepth 100000 in
set_option maxHeartbeats 4000000 in
theorem m_X11_flightBits_ok {x : kK} {r : kH} {a1 : Int32} (ht : ¬ f_X11_isThrow a1 = 0) : kMet kX11_flightBits false 0 0 [.ref 0, .int a1] (kTp (kHc x) r) 130 (kRt (some (.long (f_X11_flightBits_ok x a1))) (kTp (kHc (g_X11_flightBits_ok x a1)) r) 130) := by
  refine kMet.in (by decide) rfl rfl _ rfl ?_
  refine k_iload_n (i := 1) dX11_flightBits_0 (rfl : 0 + 1 = 1) rfl rfl ?_
  refine k_callSd1 cv_X11_199 ⟨Nat.le_of_ble_eq_true rfl, Nat.le_of_ble_eq_true rfl⟩ (m_X11_isThrow) dX11_flightBits_1 (rfl : 1 + 3 = 4) rfl ⟨Nat.le_of_ble_eq_true rfl, Nat.le_of_ble_eq_true rfl⟩ ?_
  refine k_if_ne (tgt := 17) dX11_flightBits_4 (rfl : 4 + 3 = 7) (by decide) (fun b4 => ?_) (fun b4 => by exact absurd b4 ht)
  refine k_aload_n (i := 0) dX11_flightBits_17 (rfl : 17 + 1 = 18) rfl rfl ?_
  refine k_get 11 4 fg_X11_32 dX11_flightBits_18 (rfl : 18 + 3 = 21) (Nat.le_of_ble_eq_true rfl) rfl rfl ?_
  refine k_aload_n (i := 0) dX11_flightBits_21 (rfl : 21 + 1 = 22) rfl rfl ?_
  refine k_get 11 0 fg_X11_12 dX11_flightBits_22 (rfl : 22 + 3 = 25) (Nat.le_of_ble_eq_true rfl) rfl rfl ?_
  refine k_get 9 0 fg_X11_100 dX11_flightBits_25 (rfl : 25 + 3 = 28) (Nat.le_of_ble_eq_true rfl) rfl rfl ?_
  refine k_iload_n (i := 1) dX11_flightBits_28 (rfl : 28 + 1 = 29) rfl rfl ?_
  refine k_callVv2 cv_X11_204 ⟨Nat.le_of_ble_eq_true rfl, Nat.le_of_ble_eq_true rfl⟩ (m_X4_fly (fly_h ht).1 (fly_h ht).2) dX11_flightBits_29 (rfl : 29 + 3 = 32) (Nat.le_of_ble_eq_true rfl) rfl rfl rfl ⟨Nat.le_of_ble_eq_true rfl, Nat.le_of_ble_eq_true rfl⟩ ?_
  refine k_aload_n (i := 0) dX11_flightBits_32 (rfl : 32 + 1 = 33) rfl rfl ?_
  refine k_get 11 4 fg_X11_32 dX11_flightBits_33 (rfl : 33 + 3 = 36) (Nat.le_of_ble_eq_true rfl) rfl rfl ?_
  refine k_callVd0 cv_X11_220 ⟨Nat.le_of_ble_eq_true rfl, Nat.le_of_ble_eq_true rfl⟩ (m_X4_enteredCells fly_ok.1) dX11_flightBits_36 (rfl : 36 + 3 = 39) (Nat.le_of_ble_eq_true rfl) rfl rfl rfl ⟨Nat.le_of_ble_eq_true rfl, Nat.le_of_ble_eq_true rfl⟩ ?_
  refine k_lret rfl dX11_flightBits_39 (Nat.le_of_ble_eq_true rfl) (Nat.le_of_ble_eq_true rfl) ?_
  exact kRt_of rfl rfl
def stL (c : Int32) : Nat → kK → Nat → Int64 → kK × Int64
  | 0, x, j, s => (x, s)
  | k + 1, x, j, s => if (pFind ((g_X4_fly x (nI j)).2.2.1 0) c (Int32.toNatClampNeg ((g_X4_fly x (nI j)).2.1 2)) 1) = (-1) then (stL c k (g_X4_fly x (nI j)) (j + 1) s) else (stL c k (g_X4_fly x (nI j)) (j + 1) (s ||| (1 <<< (Int32.toInt64 (nI j) &&& 63))))
set_option maxRecDepth 100000 in
set_option maxHeartbeats 4000000 in
theorem lstL {r : kH} {Q : kQ} {c : Int32} {a : Int32}  : ∀ (k : Nat) (x : kK) (j : Nat) (s : Int64), j + k = 64 → (∀ (z5 : Value), kEv kX11_servingThrows (kRm kX11_servingThrows 0 0) (kFm false 0 0 (Q)) false 90 [.ref 0, .int a, .int c, .long (stL c k x j s).2, .retAddr 0, z5] [] (kTp (kHc (stL c k x j s).1) r) 130 0 0) → kEv kX11_servingThrows (kRm kX11_servingThrows 0 0) (kFm false 0 0 (Q)) false 42 [.ref 0, .int a, .int c, .long s, .retAddr 0, .int (nI j)] [] (kTp (kHc x) r) 130 0 0 := by
  intro k
  induction k with
  | zero =>
    intro x j s hj hx
    refine k_iload (i := 5) dX11_servingThrows_42 (rfl : 42 + 2 = 44) rfl ?_
    refine k_bipush (v := 64) dX11_servingThrows_44 (rfl : 44 + 2 = 46) (by decide) ?_
    refine k_icmp_ge (tgt := 90) dX11_servingThrows_46 (rfl : 46 + 3 = 49) (by decide) (fun b46 => ?_) (fun b46 => by exact absurd (nI_le (a := 64) (b := j) (by omega) (by omega)) b46)
    rw [stL] at hx
    exact hx _
  | succ k ih =>
    intro x j s hj hx
    refine k_iload (i := 5) dX11_servingThrows_42 (rfl : 42 + 2 = 44) rfl ?_
    refine k_bipush (v := 64) dX11_servingThrows_44 (rfl : 44 + 2 = 46) (by decide) ?_
    refine k_icmp_ge (tgt := 90) dX11_servingThrows_46 (rfl : 46 + 3 = 49) (by decide) (fun b46 => by exact absurd b46 (nI_ge (a := j) (b := 64) (by omega) (by decide))) (fun b46 => ?_)
    refine k_aload_n (i := 0) dX11_servingThrows_49 (rfl : 49 + 1 = 50) rfl rfl ?_
    refine k_get 11 4 fg_X11_32 dX11_servingThrows_50 (rfl : 50 + 3 = 53) (Nat.le_of_ble_eq_true rfl) rfl rfl ?_
    refine k_aload_n (i := 0) dX11_servingThrows_53 (rfl : 53 + 1 = 54) rfl rfl ?_
    refine k_get 11 0 fg_X11_12 dX11_servingThrows_54 (rfl : 54 + 3 = 57) (Nat.le_of_ble_eq_true rfl) rfl rfl ?_
    refine k_get 9 0 fg_X11_100 dX11_servingThrows_57 (rfl : 57 + 3 = 60) (Nat.le_of_ble_eq_true rfl) rfl rfl ?_
    refine k_iload (i := 5) dX11_servingThrows_60 (rfl : 60 + 2 = 62) rfl ?_
    refine k_callVv2 cv_X11_204 ⟨Nat.le_of_ble_eq_true rfl, Nat.le_of_ble_eq_true rfl⟩ (m_X4_fly (nI_nlt0 (by omega)) (nI_lt64 (by omega))) dX11_servingThrows_62 (rfl : 62 + 3 = 65) (Nat.le_of_ble_eq_true rfl) rfl rfl rfl ⟨Nat.le_of_ble_eq_true rfl, Nat.le_of_ble_eq_true rfl⟩ ?_
    generalize hg1 : (g_X4_fly x (nI j)) = y1
    refine k_aload_n (i := 0) dX11_servingThrows_65 (rfl : 65 + 1 = 66) rfl rfl ?_
    refine k_get 11 4 fg_X11_32 dX11_servingThrows_66 (rfl : 66 + 3 = 69) (Nat.le_of_ble_eq_true rfl) rfl rfl ?_
    refine k_iload_n (i := 2) dX11_servingThrows_69 (rfl : 69 + 1 = 70) rfl rfl ?_
    refine k_callVd1 cv_X11_223 ⟨Nat.le_of_ble_eq_true rfl, Nat.le_of_ble_eq_true rfl⟩ (m_X4_stepsTo (by rw [← hg1]; exact fly_ok.1)) dX11_servingThrows_70 (rfl : 70 + 3 = 73) (Nat.le_of_ble_eq_true rfl) rfl rfl rfl ⟨Nat.le_of_ble_eq_true rfl, Nat.le_of_ble_eq_true rfl⟩ ?_
    refine k_iconst (v := (-1)) dX11_servingThrows_73 (rfl : 73 + 1 = 74) (by decide) ?_
    refine k_icmp_eq (tgt := 84) dX11_servingThrows_74 (rfl : 74 + 3 = 77) (by decide) (fun b74 => ?_) (fun b74 => ?_)
    · refine k_iinc (i := 5) (v := (nI (j + 1))) dX11_servingThrows_84 (rfl : 84 + 3 = 87) rfl (Nat.le_of_ble_eq_true rfl) (nI_1 _) ?_
      refine k_ls (ls2 := [.ref 0, .int a, .int c, .long s, .retAddr 0, .int (nI (j + 1))]) rfl ?_
      refine k_goto (tgt := 42) dX11_servingThrows_87 (by decide) ?_
      subst hg1
      rw [stL, if_pos (show (pFind ((g_X4_fly x (nI j)).2.2.1 0) c (Int32.toNatClampNeg ((g_X4_fly x (nI j)).2.1 2)) 1) = (-1) from b74)] at hx
      exact ih (g_X4_fly x (nI j)) (j + 1) s (by omega) hx
    · refine k_lload_n (i := 3) dX11_servingThrows_77 (rfl : 77 + 1 = 78) rfl rfl ?_
      refine k_lconst (v := 1) dX11_servingThrows_78 (rfl : 78 + 1 = 79) (by decide) ?_
      refine k_iload (i := 5) dX11_servingThrows_79 (rfl : 79 + 2 = 81) rfl ?_
      refine k_lshl dX11_servingThrows_81 (rfl : 81 + 1 = 82) ?_
      refine k_lor dX11_servingThrows_82 (rfl : 82 + 1 = 83) ?_
      refine k_lstore_n (i := 3) dX11_servingThrows_83 (rfl : 83 + 1 = 84) rfl (Nat.le_of_ble_eq_true rfl) ?_
      refine k_ls (ls2 := [.ref 0, .int a, .int c, .long (s ||| (1 <<< (Int32.toInt64 (nI j) &&& 63))), .retAddr 0, .int (nI j)]) rfl ?_
      refine k_iinc (i := 5) (v := (nI (j + 1))) dX11_servingThrows_84 (rfl : 84 + 3 = 87) rfl (Nat.le_of_ble_eq_true rfl) (nI_1 _) ?_
      refine k_ls (ls2 := [.ref 0, .int a, .int c, .long (s ||| (1 <<< (Int32.toInt64 (nI j) &&& 63))), .retAddr 0, .int (nI (j + 1))]) rfl ?_
      refine k_goto (tgt := 42) dX11_servingThrows_87 (by decide) ?_
      subst hg1
      rw [stL, if_neg (show ¬ ((pFind ((g_X4_fly x (nI j)).2.2.1 0) c (Int32.toNatClampNeg ((g_X4_fly x (nI j)).2.1 2)) 1) = (-1)) from b74)] at hx
      exact ih (g_X4_fly x (nI j)) (j + 1) (s ||| (1 <<< (Int32.toInt64 (nI j) &&& 63))) (by omega) hx
def o_X11_servingThrows (x : kK) (a1 : Int32) : kOut := if (b2i (decide (0 ≤ a1 ∧ a1 < ((x.1 0).2.1 3)))) = 0 then (.inr "java/lang/IndexOutOfBoundsException") else (.inl (some (.long ((stL (((x.1 0).2.2 0) (Int32.toNatClampNeg a1)) 64 x 0 0).2))))
def g_X11_servingThrows (x : kK) (a1 : Int32) : kK := if (b2i (decide (0 ≤ a1 ∧ a1 < ((x.1 0).2.1 3)))) = 0 then x else ((stL (((x.1 0).2.2 0) (Int32.toNatClampNeg a1)) 64 x 0 0).1)
set_option maxRecDepth 100000 in
set_option maxHeartbeats 4000000 in
theorem m_X11_servingThrows {x : kK} {r : kH} {a1 : Int32} (iv : kIv (x.1 0)) : kMet kX11_servingThrows false 1 6 [.ref 0, .int a1] (kTp (kHc x) r) 130 (kRo (o_X11_servingThrows x a1) (kTp (kHc (g_X11_servingThrows x a1)) r) 130) := by
  refine kMet.in (by decide) rfl rfl _ rfl ?_
  refine k_aload_n (i := 0) dX11_servingThrows_0 (rfl : 0 + 1 = 1) rfl rfl ?_
  refine k_get 11 0 fg_X11_12 dX11_servingThrows_1 (rfl : 1 + 3 = 4) (Nat.le_of_ble_eq_true rfl) rfl rfl ?_
  refine k_get 9 0 fg_X11_100 dX11_servingThrows_4 (rfl : 4 + 3 = 7) (Nat.le_of_ble_eq_true rfl) rfl rfl ?_
  refine k_iload_n (i := 1) dX11_servingThrows_7 (rfl : 7 + 1 = 8) rfl rfl ?_
  refine k_callVd1 cv_X11_172 ⟨Nat.le_of_ble_eq_true rfl, Nat.le_of_ble_eq_true rfl⟩ (m_X10_hasParty) dX11_servingThrows_8 (rfl : 8 + 3 = 11) (Nat.le_of_ble_eq_true rfl) rfl rfl rfl ⟨Nat.le_of_ble_eq_true rfl, Nat.le_of_ble_eq_true rfl⟩ ?_
  refine k_if_ne (tgt := 24) dX11_servingThrows_11 (rfl : 11 + 3 = 14) (by decide) (fun b11 => ?_) (fun b11 => ?_)
  · refine k_aload_n (i := 0) dX11_servingThrows_24 (rfl : 24 + 1 = 25) rfl rfl ?_
    refine k_get 11 0 fg_X11_12 dX11_servingThrows_25 (rfl : 25 + 3 = 28) (Nat.le_of_ble_eq_true rfl) rfl rfl ?_
    refine k_get 9 0 fg_X11_100 dX11_servingThrows_28 (rfl : 28 + 3 = 31) (Nat.le_of_ble_eq_true rfl) rfl rfl ?_
    refine k_get 10 5 fg_X11_178 dX11_servingThrows_31 (rfl : 31 + 3 = 34) (Nat.le_of_ble_eq_true rfl) rfl rfl ?_
    refine k_iload_n (i := 1) dX11_servingThrows_34 (rfl : 34 + 1 = 35) rfl rfl ?_
    refine k_iald dX11_servingThrows_35 (rfl : 35 + 1 = 36) (Nat.le_of_ble_eq_true rfl) rfl (kIv_pa iv b11) ?_
    refine k_istore_n (i := 2) dX11_servingThrows_36 (rfl : 36 + 1 = 37) rfl (Nat.le_of_ble_eq_true rfl) ?_
    refine k_ls (ls2 := [.ref 0, .int a1, .int (((x.1 0).2.2 0) (Int32.toNatClampNeg a1)), .retAddr 0, .retAddr 0, .retAddr 0]) rfl ?_
    refine k_lconst (v := 0) dX11_servingThrows_37 (rfl : 37 + 1 = 38) (by decide) ?_
    refine k_lstore_n (i := 3) dX11_servingThrows_38 (rfl : 38 + 1 = 39) rfl (Nat.le_of_ble_eq_true rfl) ?_
    refine k_ls (ls2 := [.ref 0, .int a1, .int (((x.1 0).2.2 0) (Int32.toNatClampNeg a1)), .long 0, .retAddr 0, .retAddr 0]) rfl ?_
    refine k_iconst (v := 0) dX11_servingThrows_39 (rfl : 39 + 1 = 40) (by decide) ?_
    refine k_istore (i := 5) dX11_servingThrows_40 (rfl : 40 + 2 = 42) (Nat.le_of_ble_eq_true rfl) ?_
    refine k_ls (ls2 := [.ref 0, .int a1, .int (((x.1 0).2.2 0) (Int32.toNatClampNeg a1)), .long 0, .retAddr 0, .int 0]) rfl ?_
    refine lstL (c := (((x.1 0).2.2 0) (Int32.toNatClampNeg a1))) 64 x 0 0 (by omega) (fun z5 => ?_)
    generalize hw42 : (stL (((x.1 0).2.2 0) (Int32.toNatClampNeg a1)) 64 x 0 0) = w42
    refine k_lload_n (i := 3) dX11_servingThrows_90 (rfl : 90 + 1 = 91) rfl rfl ?_
    refine k_lret rfl dX11_servingThrows_91 (Nat.le_of_ble_eq_true rfl) (Nat.le_of_ble_eq_true rfl) ?_
    subst hw42
    exact kRo_of (Eq.symm (if_neg (show ¬ ((b2i (decide (0 ≤ a1 ∧ a1 < ((x.1 0).2.1 3)))) = 0) from b11))) (congrArg (fun z => kTp (kHc z) r) (Eq.symm (if_neg (show ¬ ((b2i (decide (0 ≤ a1 ∧ a1 < ((x.1 0).2.1 3)))) = 0) from b11))))
  · refine k_throw th_X11_72_76 tx_X11_176 rfl dX11_servingThrows_14 dX11_servingThrows_17 dX11_servingThrows_18 dX11_servingThrows_20 dX11_servingThrows_23 (Nat.le_of_ble_eq_true rfl) (Nat.le_of_ble_eq_true rfl) ⟨(Nat.le_of_ble_eq_true rfl), (Nat.le_of_ble_eq_true rfl)⟩ (Nat.le_of_ble_eq_true rfl) (Nat.le_of_ble_eq_true rfl) ?_
    exact kRo_of (Eq.symm (if_pos (show (b2i (decide (0 ≤ a1 ∧ a1 < ((x.1 0).2.1 3)))) = 0 from b11))) (congrArg (fun z => kTp (kHc z) r) (Eq.symm (if_pos (show (b2i (decide (0 ≤ a1 ∧ a1 < ((x.1 0).2.1 3)))) = 0 from b11))))
def f_X11_servingThrows_ok (x : kK) (a1 : Int32) : Int64 := (stL (((x.1 0).2.2 0) (Int32.toNatClampNeg a1)) 64 x 0 0).2
def g_X11_servingThrows_ok (x : kK) (a1 : Int32) : kK := (stL (((x.1 0).2.2 0) (Int32.toNatClampNeg a1)) 64 x 0 0).1
set_option maxRecDepth 100000 in
set_option maxHeartbeats 4000000 in
theorem m_X11_servingThrows_ok {x : kK} {r : kH} {a1 : Int32} (iv : kIv (x.1 0)) (hp : ¬ b2i (decide (0 ≤ a1 ∧ a1 < (x.1 0).2.1 3)) = 0) : kMet kX11_servingThrows false 0 0 [.ref 0, .int a1] (kTp (kHc x) r) 130 (kRt (some (.long (f_X11_servingThrows_ok x a1))) (kTp (kHc (g_X11_servingThrows_ok x a1)) r) 130) := by
  refine kMet.in (by decide) rfl rfl _ rfl ?_
  refine k_aload_n (i := 0) dX11_servingThrows_0 (rfl : 0 + 1 = 1) rfl rfl ?_
  refine k_get 11 0 fg_X11_12 dX11_servingThrows_1 (rfl : 1 + 3 = 4) (Nat.le_of_ble_eq_true rfl) rfl rfl ?_
  refine k_get 9 0 fg_X11_100 dX11_servingThrows_4 (rfl : 4 + 3 = 7) (Nat.le_of_ble_eq_true rfl) rfl rfl ?_
  refine k_iload_n (i := 1) dX11_servingThrows_7 (rfl : 7 + 1 = 8) rfl rfl ?_
  refine k_callVd1 cv_X11_172 ⟨Nat.le_of_ble_eq_true rfl, Nat.le_of_ble_eq_true rfl⟩ (m_X10_hasParty) dX11_servingThrows_8 (rfl : 8 + 3 = 11) (Nat.le_of_ble_eq_true rfl) rfl rfl rfl ⟨Nat.le_of_ble_eq_true rfl, Nat.le_of_ble_eq_true rfl⟩ ?_
  refine k_if_ne (tgt := 24) dX11_servingThrows_11 (rfl : 11 + 3 = 14) (by decide) (fun b11 => ?_) (fun b11 => by exact absurd b11 hp)
  refine k_aload_n (i := 0) dX11_servingThrows_24 (rfl : 24 + 1 = 25) rfl rfl ?_
  refine k_get 11 0 fg_X11_12 dX11_servingThrows_25 (rfl : 25 + 3 = 28) (Nat.le_of_ble_eq_true rfl) rfl rfl ?_
  refine k_get 9 0 fg_X11_100 dX11_servingThrows_28 (rfl : 28 + 3 = 31) (Nat.le_of_ble_eq_true rfl) rfl rfl ?_
  refine k_get 10 5 fg_X11_178 dX11_servingThrows_31 (rfl : 31 + 3 = 34) (Nat.le_of_ble_eq_true rfl) rfl rfl ?_
  refine k_iload_n (i := 1) dX11_servingThrows_34 (rfl : 34 + 1 = 35) rfl rfl ?_
  refine k_iald dX11_servingThrows_35 (rfl : 35 + 1 = 36) (Nat.le_of_ble_eq_true rfl) rfl (kIv_pa iv hp) ?_
  refine k_istore_n (i := 2) dX11_servingThrows_36 (rfl : 36 + 1 = 37) rfl (Nat.le_of_ble_eq_true rfl) ?_
  refine k_ls (ls2 := [.ref 0, .int a1, .int (((x.1 0).2.2 0) (Int32.toNatClampNeg a1)), .retAddr 0, .retAddr 0, .retAddr 0]) rfl ?_
  refine k_lconst (v := 0) dX11_servingThrows_37 (rfl : 37 + 1 = 38) (by decide) ?_
  refine k_lstore_n (i := 3) dX11_servingThrows_38 (rfl : 38 + 1 = 39) rfl (Nat.le_of_ble_eq_true rfl) ?_
  refine k_ls (ls2 := [.ref 0, .int a1, .int (((x.1 0).2.2 0) (Int32.toNatClampNeg a1)), .long 0, .retAddr 0, .retAddr 0]) rfl ?_
  refine k_iconst (v := 0) dX11_servingThrows_39 (rfl : 39 + 1 = 40) (by decide) ?_
  refine k_istore (i := 5) dX11_servingThrows_40 (rfl : 40 + 2 = 42) (Nat.le_of_ble_eq_true rfl) ?_
  refine k_ls (ls2 := [.ref 0, .int a1, .int (((x.1 0).2.2 0) (Int32.toNatClampNeg a1)), .long 0, .retAddr 0, .int 0]) rfl ?_
  refine lstL (c := (((x.1 0).2.2 0) (Int32.toNatClampNeg a1))) 64 x 0 0 (by omega) (fun z5 => ?_)
  generalize hw42 : (stL (((x.1 0).2.2 0) (Int32.toNatClampNeg a1)) 64 x 0 0) = w42
  refine k_lload_n (i := 3) dX11_servingThrows_90 (rfl : 90 + 1 = 91) rfl rfl ?_
  refine k_lret rfl dX11_servingThrows_91 (Nat.le_of_ble_eq_true rfl) (Nat.le_of_ble_eq_true rfl) ?_
  subst hw42
  exact kRt_of rfl rfl
theorem it_nI {j : Nat} (h : j < 64) : ¬ f_X11_isThrow (nI j) = 0 := by
  unfold f_X11_isThrow
  rw [if_neg (nI_nlt0 (by omega)), if_neg (fun q => absurd q (nI_ge (a := j) (b := 64) h (by decide)))]
  decide
def sbL (c : Int32) : Nat → kK → Nat → Int64 → kK × Int64
  | 0, x, j, s => (x, s)
  | k + 1, x, j, s => (sbL c k (g_X11_flightBits_ok x (nI j)) (j + 1) (s ||| (((Int64.toUInt64 (f_X11_flightBits_ok x (nI j)) >>> (Int64.toUInt64 (Int32.toInt64 c) &&& Int64.toUInt64 63)).toInt64 &&& 1) <<< (Int32.toInt64 (nI j) &&& 63))))
set_option maxRecDepth 100000 in
set_option maxHeartbeats 4000000 in
theorem lsbL {r : kH} {Q : kQ} {c : Int32} {a : Int32}  : ∀ (k : Nat) (x : kK) (j : Nat) (s : Int64), j + k = 64 → (∀ (z5 : Value), kEv kX11_servingThrowsBySets (kRm kX11_servingThrowsBySets 0 0) (kFm false 0 0 (Q)) false 71 [.ref 0, .int a, .int c, .long (sbL c k x j s).2, .retAddr 0, z5] [] (kTp (kHc (sbL c k x j s).1) r) 130 0 0) → kEv kX11_servingThrowsBySets (kRm kX11_servingThrowsBySets 0 0) (kFm false 0 0 (Q)) false 42 [.ref 0, .int a, .int c, .long s, .retAddr 0, .int (nI j)] [] (kTp (kHc x) r) 130 0 0 := by
  intro k
  induction k with
  | zero =>
    intro x j s hj hx
    refine k_iload (i := 5) dX11_servingThrowsBySets_42 (rfl : 42 + 2 = 44) rfl ?_
    refine k_bipush (v := 64) dX11_servingThrowsBySets_44 (rfl : 44 + 2 = 46) (by decide) ?_
    refine k_icmp_ge (tgt := 71) dX11_servingThrowsBySets_46 (rfl : 46 + 3 = 49) (by decide) (fun b46 => ?_) (fun b46 => by exact absurd (nI_le (a := 64) (b := j) (by omega) (by omega)) b46)
    rw [sbL] at hx
    exact hx _
  | succ k ih =>
    intro x j s hj hx
    refine k_iload (i := 5) dX11_servingThrowsBySets_42 (rfl : 42 + 2 = 44) rfl ?_
    refine k_bipush (v := 64) dX11_servingThrowsBySets_44 (rfl : 44 + 2 = 46) (by decide) ?_
    refine k_icmp_ge (tgt := 71) dX11_servingThrowsBySets_46 (rfl : 46 + 3 = 49) (by decide) (fun b46 => by exact absurd b46 (nI_ge (a := j) (b := 64) (by omega) (by decide))) (fun b46 => ?_)
    refine k_lload_n (i := 3) dX11_servingThrowsBySets_49 (rfl : 49 + 1 = 50) rfl rfl ?_
    refine k_aload_n (i := 0) dX11_servingThrowsBySets_50 (rfl : 50 + 1 = 51) rfl rfl ?_
    refine k_iload (i := 5) dX11_servingThrowsBySets_51 (rfl : 51 + 2 = 53) rfl ?_
    refine k_callVd1 cv_X11_226 ⟨Nat.le_of_ble_eq_true rfl, Nat.le_of_ble_eq_true rfl⟩ (m_X11_flightBits_ok (it_nI (by omega))) dX11_servingThrowsBySets_53 (rfl : 53 + 3 = 56) (Nat.le_of_ble_eq_true rfl) rfl rfl rfl ⟨Nat.le_of_ble_eq_true rfl, Nat.le_of_ble_eq_true rfl⟩ ?_
    refine k_iload_n (i := 2) dX11_servingThrowsBySets_56 (rfl : 56 + 1 = 57) rfl rfl ?_
    refine k_lushr dX11_servingThrowsBySets_57 (rfl : 57 + 1 = 58) ?_
    refine k_lconst (v := 1) dX11_servingThrowsBySets_58 (rfl : 58 + 1 = 59) (by decide) ?_
    refine k_land dX11_servingThrowsBySets_59 (rfl : 59 + 1 = 60) ?_
    refine k_iload (i := 5) dX11_servingThrowsBySets_60 (rfl : 60 + 2 = 62) rfl ?_
    refine k_lshl dX11_servingThrowsBySets_62 (rfl : 62 + 1 = 63) ?_
    refine k_lor dX11_servingThrowsBySets_63 (rfl : 63 + 1 = 64) ?_
    refine k_lstore_n (i := 3) dX11_servingThrowsBySets_64 (rfl : 64 + 1 = 65) rfl (Nat.le_of_ble_eq_true rfl) ?_
    refine k_ls (ls2 := [.ref 0, .int a, .int c, .long (s ||| (((Int64.toUInt64 (f_X11_flightBits_ok x (nI j)) >>> (Int64.toUInt64 (Int32.toInt64 c) &&& Int64.toUInt64 63)).toInt64 &&& 1) <<< (Int32.toInt64 (nI j) &&& 63))), .retAddr 0, .int (nI j)]) rfl ?_
    refine k_iinc (i := 5) (v := (nI (j + 1))) dX11_servingThrowsBySets_65 (rfl : 65 + 3 = 68) rfl (Nat.le_of_ble_eq_true rfl) (nI_1 _) ?_
    refine k_ls (ls2 := [.ref 0, .int a, .int c, .long (s ||| (((Int64.toUInt64 (f_X11_flightBits_ok x (nI j)) >>> (Int64.toUInt64 (Int32.toInt64 c) &&& Int64.toUInt64 63)).toInt64 &&& 1) <<< (Int32.toInt64 (nI j) &&& 63))), .retAddr 0, .int (nI (j + 1))]) rfl ?_
    refine k_goto (tgt := 42) dX11_servingThrowsBySets_68 (by decide) ?_
    rw [sbL] at hx
    exact ih (g_X11_flightBits_ok x (nI j)) (j + 1) (s ||| (((Int64.toUInt64 (f_X11_flightBits_ok x (nI j)) >>> (Int64.toUInt64 (Int32.toInt64 c) &&& Int64.toUInt64 63)).toInt64 &&& 1) <<< (Int32.toInt64 (nI j) &&& 63))) (by omega) hx
def o_X11_servingThrowsBySets (x : kK) (a1 : Int32) : kOut := if (b2i (decide (0 ≤ a1 ∧ a1 < ((x.1 0).2.1 3)))) = 0 then (.inr "java/lang/IndexOutOfBoundsException") else (.inl (some (.long ((sbL (((x.1 0).2.2 0) (Int32.toNatClampNeg a1)) 64 x 0 0).2))))
def g_X11_servingThrowsBySets (x : kK) (a1 : Int32) : kK := if (b2i (decide (0 ≤ a1 ∧ a1 < ((x.1 0).2.1 3)))) = 0 then x else ((sbL (((x.1 0).2.2 0) (Int32.toNatClampNeg a1)) 64 x 0 0).1)
set_option maxRecDepth 100000 in
set_option maxHeartbeats 4000000 in
theorem m_X11_servingThrowsBySets {x : kK} {r : kH} {a1 : Int32} (iv : kIv (x.1 0)) : kMet kX11_servingThrowsBySets false 1 6 [.ref 0, .int a1] (kTp (kHc x) r) 130 (kRo (o_X11_servingThrowsBySets x a1) (kTp (kHc (g_X11_servingThrowsBySets x a1)) r) 130) := by
  refine kMet.in (by decide) rfl rfl _ rfl ?_
  refine k_aload_n (i := 0) dX11_servingThrowsBySets_0 (rfl : 0 + 1 = 1) rfl rfl ?_
  refine k_get 11 0 fg_X11_12 dX11_servingThrowsBySets_1 (rfl : 1 + 3 = 4) (Nat.le_of_ble_eq_true rfl) rfl rfl ?_
  refine k_get 9 0 fg_X11_100 dX11_servingThrowsBySets_4 (rfl : 4 + 3 = 7) (Nat.le_of_ble_eq_true rfl) rfl rfl ?_
  refine k_iload_n (i := 1) dX11_servingThrowsBySets_7 (rfl : 7 + 1 = 8) rfl rfl ?_
  refine k_callVd1 cv_X11_172 ⟨Nat.le_of_ble_eq_true rfl, Nat.le_of_ble_eq_true rfl⟩ (m_X10_hasParty) dX11_servingThrowsBySets_8 (rfl : 8 + 3 = 11) (Nat.le_of_ble_eq_true rfl) rfl rfl rfl ⟨Nat.le_of_ble_eq_true rfl, Nat.le_of_ble_eq_true rfl⟩ ?_
  refine k_if_ne (tgt := 24) dX11_servingThrowsBySets_11 (rfl : 11 + 3 = 14) (by decide) (fun b11 => ?_) (fun b11 => ?_)
  · refine k_aload_n (i := 0) dX11_servingThrowsBySets_24 (rfl : 24 + 1 = 25) rfl rfl ?_
    refine k_get 11 0 fg_X11_12 dX11_servingThrowsBySets_25 (rfl : 25 + 3 = 28) (Nat.le_of_ble_eq_true rfl) rfl rfl ?_
    refine k_get 9 0 fg_X11_100 dX11_servingThrowsBySets_28 (rfl : 28 + 3 = 31) (Nat.le_of_ble_eq_true rfl) rfl rfl ?_
    refine k_get 10 5 fg_X11_178 dX11_servingThrowsBySets_31 (rfl : 31 + 3 = 34) (Nat.le_of_ble_eq_true rfl) rfl rfl ?_
    refine k_iload_n (i := 1) dX11_servingThrowsBySets_34 (rfl : 34 + 1 = 35) rfl rfl ?_
    refine k_iald dX11_servingThrowsBySets_35 (rfl : 35 + 1 = 36) (Nat.le_of_ble_eq_true rfl) rfl (kIv_pa iv b11) ?_
    refine k_istore_n (i := 2) dX11_servingThrowsBySets_36 (rfl : 36 + 1 = 37) rfl (Nat.le_of_ble_eq_true rfl) ?_
    refine k_ls (ls2 := [.ref 0, .int a1, .int (((x.1 0).2.2 0) (Int32.toNatClampNeg a1)), .retAddr 0, .retAddr 0, .retAddr 0]) rfl ?_
    refine k_lconst (v := 0) dX11_servingThrowsBySets_37 (rfl : 37 + 1 = 38) (by decide) ?_
    refine k_lstore_n (i := 3) dX11_servingThrowsBySets_38 (rfl : 38 + 1 = 39) rfl (Nat.le_of_ble_eq_true rfl) ?_
    refine k_ls (ls2 := [.ref 0, .int a1, .int (((x.1 0).2.2 0) (Int32.toNatClampNeg a1)), .long 0, .retAddr 0, .retAddr 0]) rfl ?_
    refine k_iconst (v := 0) dX11_servingThrowsBySets_39 (rfl : 39 + 1 = 40) (by decide) ?_
    refine k_istore (i := 5) dX11_servingThrowsBySets_40 (rfl : 40 + 2 = 42) (Nat.le_of_ble_eq_true rfl) ?_
    refine k_ls (ls2 := [.ref 0, .int a1, .int (((x.1 0).2.2 0) (Int32.toNatClampNeg a1)), .long 0, .retAddr 0, .int 0]) rfl ?_
    refine lsbL (c := (((x.1 0).2.2 0) (Int32.toNatClampNeg a1))) 64 x 0 0 (by omega) (fun z5 => ?_)
    generalize hw42 : (sbL (((x.1 0).2.2 0) (Int32.toNatClampNeg a1)) 64 x 0 0) = w42
    refine k_lload_n (i := 3) dX11_servingThrowsBySets_71 (rfl : 71 + 1 = 72) rfl rfl ?_
    refine k_lret rfl dX11_servingThrowsBySets_72 (Nat.le_of_ble_eq_true rfl) (Nat.le_of_ble_eq_true rfl) ?_
    subst hw42
    exact kRo_of (Eq.symm (if_neg (show ¬ ((b2i (decide (0 ≤ a1 ∧ a1 < ((x.1 0).2.1 3)))) = 0) from b11))) (congrArg (fun z => kTp (kHc z) r) (Eq.symm (if_neg (show ¬ ((b2i (decide (0 ≤ a1 ∧ a1 < ((x.1 0).2.1 3)))) = 0) from b11))))
  · refine k_throw th_X11_72_76 tx_X11_176 rfl dX11_servingThrowsBySets_14 dX11_servingThrowsBySets_17 dX11_servingThrowsBySets_18 dX11_servingThrowsBySets_20 dX11_servingThrowsBySets_23 (Nat.le_of_ble_eq_true rfl) (Nat.le_of_ble_eq_true rfl) ⟨(Nat.le_of_ble_eq_true rfl), (Nat.le_of_ble_eq_true rfl)⟩ (Nat.le_of_ble_eq_true rfl) (Nat.le_of_ble_eq_true rfl) ?_
    exact kRo_of (Eq.symm (if_pos (show (b2i (decide (0 ≤ a1 ∧ a1 < ((x.1 0).2.1 3)))) = 0 from b11))) (congrArg (fun z => kTp (kHc z) r) (Eq.symm (if_pos (show (b2i (decide (0 ≤ a1 ∧ a1 < ((x.1 0).2.1 3)))) = 0 from b11))))
def f_X11_servingThrowsBySets_ok (x : kK) (a1 : Int32) : Int64 := (sbL (((x.1 0).2.2 0) (Int32.toNatClampNeg a1)) 64 x 0 0).2
def g_X11_servingThrowsBySets_ok (x : kK) (a1 : Int32) : kK := (sbL (((x.1 0).2.2 0) (Int32.toNatClampNeg a1)) 64 x 0 0).1
set_option maxRecDepth 100000 in
set_option maxHeartbeats 4000000 in
theorem m_X11_servingThrowsBySets_ok {x : kK} {r : kH} {a1 : Int32} (iv : kIv (x.1 0)) (hp : ¬ b2i (decide (0 ≤ a1 ∧ a1 < (x.1 0).2.1 3)) = 0) : kMet kX11_servingThrowsBySets false 0 0 [.ref 0, .int a1] (kTp (kHc x) r) 130 (kRt (some (.long (f_X11_servingThrowsBySets_ok x a1))) (kTp (kHc (g_X11_servingThrowsBySets_ok x a1)) r) 130) := by
  refine kMet.in (by decide) rfl rfl _ rfl ?_
  refine k_aload_n (i := 0) dX11_servingThrowsBySets_0 (rfl : 0 + 1 = 1) rfl rfl ?_
  refine k_get 11 0 fg_X11_12 dX11_servingThrowsBySets_1 (rfl : 1 + 3 = 4) (Nat.le_of_ble_eq_true rfl) rfl rfl ?_
  refine k_get 9 0 fg_X11_100 dX11_servingThrowsBySets_4 (rfl : 4 + 3 = 7) (Nat.le_of_ble_eq_true rfl) rfl rfl ?_
  refine k_iload_n (i := 1) dX11_servingThrowsBySets_7 (rfl : 7 + 1 = 8) rfl rfl ?_
  refine k_callVd1 cv_X11_172 ⟨Nat.le_of_ble_eq_true rfl, Nat.le_of_ble_eq_true rfl⟩ (m_X10_hasParty) dX11_servingThrowsBySets_8 (rfl : 8 + 3 = 11) (Nat.le_of_ble_eq_true rfl) rfl rfl rfl ⟨Nat.le_of_ble_eq_true rfl, Nat.le_of_ble_eq_true rfl⟩ ?_
  refine k_if_ne (tgt := 24) dX11_servingThrowsBySets_11 (rfl : 11 + 3 = 14) (by decide) (fun b11 => ?_) (fun b11 => by exact absurd b11 hp)
  refine k_aload_n (i := 0) dX11_servingThrowsBySets_24 (rfl : 24 + 1 = 25) rfl rfl ?_
  refine k_get 11 0 fg_X11_12 dX11_servingThrowsBySets_25 (rfl : 25 + 3 = 28) (Nat.le_of_ble_eq_true rfl) rfl rfl ?_
  refine k_get 9 0 fg_X11_100 dX11_servingThrowsBySets_28 (rfl : 28 + 3 = 31) (Nat.le_of_ble_eq_true rfl) rfl rfl ?_
  refine k_get 10 5 fg_X11_178 dX11_servingThrowsBySets_31 (rfl : 31 + 3 = 34) (Nat.le_of_ble_eq_true rfl) rfl rfl ?_
  refine k_iload_n (i := 1) dX11_servingThrowsBySets_34 (rfl : 34 + 1 = 35) rfl rfl ?_
  refine k_iald dX11_servingThrowsBySets_35 (rfl : 35 + 1 = 36) (Nat.le_of_ble_eq_true rfl) rfl (kIv_pa iv hp) ?_
  refine k_istore_n (i := 2) dX11_servingThrowsBySets_36 (rfl : 36 + 1 = 37) rfl (Nat.le_of_ble_eq_true rfl) ?_
  refine k_ls (ls2 := [.ref 0, .int a1, .int (((x.1 0).2.2 0) (Int32.toNatClampNeg a1)), .retAddr 0, .retAddr 0, .retAddr 0]) rfl ?_
  refine k_lconst (v := 0) dX11_servingThrowsBySets_37 (rfl : 37 + 1 = 38) (by decide) ?_
  refine k_lstore_n (i := 3) dX11_servingThrowsBySets_38 (rfl : 38 + 1 = 39) rfl (Nat.le_of_ble_eq_true rfl) ?_
  refine k_ls (ls2 := [.ref 0, .int a1, .int (((x.1 0).2.2 0) (Int32.toNatClampNeg a1)), .long 0, .retAddr 0, .retAddr 0]) rfl ?_
  refine k_iconst (v := 0) dX11_servingThrowsBySets_39 (rfl : 39 + 1 = 40) (by decide) ?_
  refine k_istore (i := 5) dX11_servingThrowsBySets_40 (rfl : 40 + 2 = 42) (Nat.le_of_ble_eq_true rfl) ?_
  refine k_ls (ls2 := [.ref 0, .int a1, .int (((x.1 0).2.2 0) (Int32.toNatClampNeg a1)), .long 0, .retAddr 0, .int 0]) rfl ?_
  refine lsbL (c := (((x.1 0).2.2 0) (Int32.toNatClampNeg a1))) 64 x 0 0 (by omega) (fun z5 => ?_)
  generalize hw42 : (sbL (((x.1 0).2.2 0) (Int32.toNatClampNeg a1)) 64 x 0 0) = w42
  refine k_lload_n (i := 3) dX11_servingThrowsBySets_71 (rfl : 71 + 1 = 72) rfl rfl ?_
  refine k_lret rfl dX11_servingThrowsBySets_72 (Nat.le_of_ble_eq_true rfl) (Nat.le_of_ble_eq_true rfl) ?_
  subst hw42
  exact kRt_of rfl rfl
theorem iv_pp {c : kCo} (iv : kIv c) : (c.2.1 3).toNatClampNeg ≤ 8 := by
  obtain ⟨n, hn, e⟩ := iv.1
  rw [e, nI_clamp (by omega)]
  exact hn
def sgL (x : kK) : Nat → Nat → Int64 → Int64
  | 0, j, s => s
  | k + 1, j, s => (sgL x k (j + 1) ((s ^^^ (1 <<< (Int32.toInt64 (((x.1 0).2.2 0) (Int32.toNatClampNeg (nI j))) &&& 63))) * (31 : Int64)))
set_option maxRecDepth 100000 in
set_option maxHeartbeats 4000000 in
theorem lsgL {x : kK} {r : kH} {Q : kQ}  (iv : kIv (x.1 0)) : ∀ (k : Nat) (j : Nat) (s : Int64), j + k = (Int32.toNatClampNeg ((x.1 0).2.1 3)) → (∀ (z3 : Value), kEv kX11_signature (kRm kX11_signature 0 0) (kFm false 0 0 (Q)) false 58 [.ref 0, .long (sgL x k j s), .retAddr 0, z3] [] (kTp (kHc x) r) 130 0 0) → kEv kX11_signature (kRm kX11_signature 0 0) (kFm false 0 0 (Q)) false 17 [.ref 0, .long s, .retAddr 0, .int (nI j)] [] (kTp (kHc x) r) 130 0 0 := by
  intro k
  induction k with
  | zero =>
    intro j s hj hx
    refine k_iload_n (i := 3) dX11_signature_17 (rfl : 17 + 1 = 18) rfl rfl ?_
    refine k_aload_n (i := 0) dX11_signature_18 (rfl : 18 + 1 = 19) rfl rfl ?_
    refine k_get 11 0 fg_X11_12 dX11_signature_19 (rfl : 19 + 3 = 22) (Nat.le_of_ble_eq_true rfl) rfl rfl ?_
    refine k_get 9 0 fg_X11_100 dX11_signature_22 (rfl : 22 + 3 = 25) (Nat.le_of_ble_eq_true rfl) rfl rfl ?_
    refine k_get 10 4 fg_X11_169 dX11_signature_25 (rfl : 25 + 3 = 28) (Nat.le_of_ble_eq_true rfl) rfl rfl ?_
    refine k_icmp_ge (tgt := 58) dX11_signature_28 (rfl : 28 + 3 = 31) (by decide) (fun b28 => ?_) (fun b28 => by exact absurd (cl_le (by omega)) b28)
    rw [sgL] at hx
    exact hx _
  | succ k ih =>
    intro j s hj hx
    refine k_iload_n (i := 3) dX11_signature_17 (rfl : 17 + 1 = 18) rfl rfl ?_
    refine k_aload_n (i := 0) dX11_signature_18 (rfl : 18 + 1 = 19) rfl rfl ?_
    refine k_get 11 0 fg_X11_12 dX11_signature_19 (rfl : 19 + 3 = 22) (Nat.le_of_ble_eq_true rfl) rfl rfl ?_
    refine k_get 9 0 fg_X11_100 dX11_signature_22 (rfl : 22 + 3 = 25) (Nat.le_of_ble_eq_true rfl) rfl rfl ?_
    refine k_get 10 4 fg_X11_169 dX11_signature_25 (rfl : 25 + 3 = 28) (Nat.le_of_ble_eq_true rfl) rfl rfl ?_
    refine k_icmp_ge (tgt := 58) dX11_signature_28 (rfl : 28 + 3 = 31) (by decide) (fun b28 => by exact absurd b28 (cl_nle (by omega))) (fun b28 => ?_)
    refine k_lload_n (i := 1) dX11_signature_31 (rfl : 31 + 1 = 32) rfl rfl ?_
    refine k_lconst (v := 1) dX11_signature_32 (rfl : 32 + 1 = 33) (by decide) ?_
    refine k_aload_n (i := 0) dX11_signature_33 (rfl : 33 + 1 = 34) rfl rfl ?_
    refine k_get 11 0 fg_X11_12 dX11_signature_34 (rfl : 34 + 3 = 37) (Nat.le_of_ble_eq_true rfl) rfl rfl ?_
    refine k_get 9 0 fg_X11_100 dX11_signature_37 (rfl : 37 + 3 = 40) (Nat.le_of_ble_eq_true rfl) rfl rfl ?_
    refine k_get 10 5 fg_X11_178 dX11_signature_40 (rfl : 40 + 3 = 43) (Nat.le_of_ble_eq_true rfl) rfl rfl ?_
    refine k_iload_n (i := 3) dX11_signature_43 (rfl : 43 + 1 = 44) rfl rfl ?_
    refine k_iald dX11_signature_44 (rfl : 44 + 1 = 45) (Nat.le_of_ble_eq_true rfl) rfl (by have := iv_pp iv; exact vp_in_nI (by omega) (by omega)) ?_
    refine k_lshl dX11_signature_45 (rfl : 45 + 1 = 46) ?_
    refine k_lxor dX11_signature_46 (rfl : 46 + 1 = 47) ?_
    refine k_ldc2 dX11_signature_47 (rfl : 47 + 3 = 50) kc_X11_348 ?_
    refine k_lmul dX11_signature_50 (rfl : 50 + 1 = 51) ?_
    refine k_lstore_n (i := 1) dX11_signature_51 (rfl : 51 + 1 = 52) rfl (Nat.le_of_ble_eq_true rfl) ?_
    refine k_ls (ls2 := [.ref 0, .long ((s ^^^ (1 <<< (Int32.toInt64 (((x.1 0).2.2 0) (Int32.toNatClampNeg (nI j))) &&& 63))) * (31 : Int64)), .retAddr 0, .int (nI j)]) rfl ?_
    refine k_iinc (i := 3) (v := (nI (j + 1))) dX11_signature_52 (rfl : 52 + 3 = 55) rfl (Nat.le_of_ble_eq_true rfl) (nI_1 _) ?_
    refine k_ls (ls2 := [.ref 0, .long ((s ^^^ (1 <<< (Int32.toInt64 (((x.1 0).2.2 0) (Int32.toNatClampNeg (nI j))) &&& 63))) * (31 : Int64)), .retAddr 0, .int (nI (j + 1))]) rfl ?_
    refine k_goto (tgt := 17) dX11_signature_55 (by decide) ?_
    rw [sgL] at hx
    exact ih (j + 1) ((s ^^^ (1 <<< (Int32.toInt64 (((x.1 0).2.2 0) (Int32.toNatClampNeg (nI j))) &&& 63))) * (31 : Int64)) (by omega) hx
def f_X11_signature (x : kK)  : Int64 := (sgL x (Int32.toNatClampNeg ((x.1 0).2.1 3)) 0 ((x.1 0).1 * (31 : Int64)))
set_option maxRecDepth 100000 in
set_option maxHeartbeats 4000000 in
theorem m_X11_signature {x : kK} {r : kH} (iv : kIv (x.1 0)) : kMet kX11_signature false 0 0 [.ref 0] (kTp (kHc x) r) 130 (kRt (some (.long (f_X11_signature x ))) (kTp (kHc x) r) 130) := by
  refine kMet.in (by decide) rfl rfl _ rfl ?_
  refine k_aload_n (i := 0) dX11_signature_0 (rfl : 0 + 1 = 1) rfl rfl ?_
  refine k_get 11 0 fg_X11_12 dX11_signature_1 (rfl : 1 + 3 = 4) (Nat.le_of_ble_eq_true rfl) rfl rfl ?_
  refine k_get 9 0 fg_X11_100 dX11_signature_4 (rfl : 4 + 3 = 7) (Nat.le_of_ble_eq_true rfl) rfl rfl ?_
  refine k_get 10 0 fg_X11_104 dX11_signature_7 (rfl : 7 + 3 = 10) (Nat.le_of_ble_eq_true rfl) rfl rfl ?_
  refine k_ldc2 dX11_signature_10 (rfl : 10 + 3 = 13) kc_X11_348 ?_
  refine k_lmul dX11_signature_13 (rfl : 13 + 1 = 14) ?_
  refine k_lstore_n (i := 1) dX11_signature_14 (rfl : 14 + 1 = 15) rfl (Nat.le_of_ble_eq_true rfl) ?_
  refine k_ls (ls2 := [.ref 0, .long ((x.1 0).1 * (31 : Int64)), .retAddr 0, .retAddr 0]) rfl ?_
  refine k_iconst (v := 0) dX11_signature_15 (rfl : 15 + 1 = 16) (by decide) ?_
  refine k_istore_n (i := 3) dX11_signature_16 (rfl : 16 + 1 = 17) rfl (Nat.le_of_ble_eq_true rfl) ?_
  refine k_ls (ls2 := [.ref 0, .long ((x.1 0).1 * (31 : Int64)), .retAddr 0, .int 0]) rfl ?_
  refine lsgL iv (Int32.toNatClampNeg ((x.1 0).2.1 3)) 0 ((x.1 0).1 * (31 : Int64)) (by omega) (fun z3 => ?_)
  generalize hw17 : (sgL x (Int32.toNatClampNeg ((x.1 0).2.1 3)) 0 ((x.1 0).1 * (31 : Int64))) = w17
  refine k_lload_n (i := 1) dX11_signature_58 (rfl : 58 + 1 = 59) rfl rfl ?_
  refine k_lret rfl dX11_signature_59 (Nat.le_of_ble_eq_true rfl) (Nat.le_of_ble_eq_true rfl) ?_
  subst hw17
  exact kRt_of rfl rfl
def f_X11_reach_ok (x : kK) (a1 : Int32) (a2 : Int32) : Int64 := (cbs (x.1 0).1 64 (((1 : Int64) <<< (((f_X11_cellAt a1 a2)).toInt64 &&& 63)) &&& ((x.1 0).1 ^^^ (-1))))
set_option maxRecDepth 100000 in
set_option maxHeartbeats 4000000 in
theorem m_X11_reach_ok {x : kK} {r : kH} {a1 : Int32} {a2 : Int32} (hc : ¬ f_X11_isCell a1 a2 = 0) : kMet kX11_reach false 0 0 [.ref 0, .int a1, .int a2] (kTp (kHc x) r) 130 (kRt (some (.long (f_X11_reach_ok x a1 a2))) (kTp (kHc x) r) 130) := by
  refine kMet.in (by decide) rfl rfl _ rfl ?_
  refine k_iload_n (i := 1) dX11_reach_0 (rfl : 0 + 1 = 1) rfl rfl ?_
  refine k_iload_n (i := 2) dX11_reach_1 (rfl : 1 + 1 = 2) rfl rfl ?_
  refine k_callSd2 cv_X11_117 ⟨Nat.le_of_ble_eq_true rfl, Nat.le_of_ble_eq_true rfl⟩ (m_X11_isCell) dX11_reach_2 (rfl : 2 + 3 = 5) rfl ⟨Nat.le_of_ble_eq_true rfl, Nat.le_of_ble_eq_true rfl⟩ ?_
  refine k_if_ne (tgt := 18) dX11_reach_5 (rfl : 5 + 3 = 8) (by decide) (fun b5 => ?_) (fun b5 => by exact absurd b5 hc)
  refine k_aload_n (i := 0) dX11_reach_18 (rfl : 18 + 1 = 19) rfl rfl ?_
  refine k_get 11 0 fg_X11_12 dX11_reach_19 (rfl : 19 + 3 = 22) (Nat.le_of_ble_eq_true rfl) rfl rfl ?_
  refine k_get 9 0 fg_X11_100 dX11_reach_22 (rfl : 22 + 3 = 25) (Nat.le_of_ble_eq_true rfl) rfl rfl ?_
  refine k_iload_n (i := 1) dX11_reach_25 (rfl : 25 + 1 = 26) rfl rfl ?_
  refine k_iload_n (i := 2) dX11_reach_26 (rfl : 26 + 1 = 27) rfl rfl ?_
  refine k_callSd2 cv_X11_121 ⟨Nat.le_of_ble_eq_true rfl, Nat.le_of_ble_eq_true rfl⟩ (m_X11_cellAt) dX11_reach_27 (rfl : 27 + 3 = 30) rfl ⟨Nat.le_of_ble_eq_true rfl, Nat.le_of_ble_eq_true rfl⟩ ?_
  refine k_callVd1 cv_X11_124 ⟨Nat.le_of_ble_eq_true rfl, Nat.le_of_ble_eq_true rfl⟩ (m_X10_connectedBySets) dX11_reach_30 (rfl : 30 + 3 = 33) (Nat.le_of_ble_eq_true rfl) rfl rfl rfl ⟨Nat.le_of_ble_eq_true rfl, Nat.le_of_ble_eq_true rfl⟩ ?_
  refine k_lret rfl dX11_reach_33 (Nat.le_of_ble_eq_true rfl) (Nat.le_of_ble_eq_true rfl) ?_
  exact kRt_of rfl rfl
def f_X11_reachByQueue_ok (x : kK) (a1 : Int32) (a2 : Int32) : Int64 := (f_X11_connectedByQueue x (f_X11_cellAt a1 a2))
def g_X11_reachByQueue_ok (x : kK) (a1 : Int32) (a2 : Int32) : kK := (g_X11_connectedByQueue x (f_X11_cellAt a1 a2))
set_option maxRecDepth 100000 in
set_option maxHeartbeats 4000000 in
theorem m_X11_reachByQueue_ok {x : kK} {r : kH} {a1 : Int32} {a2 : Int32} (hc : ¬ f_X11_isCell a1 a2 = 0) : kMet kX11_reachByQueue false 0 0 [.ref 0, .int a1, .int a2] (kTp (kHc x) r) 130 (kRt (some (.long (f_X11_reachByQueue_ok x a1 a2))) (kTp (kHc (g_X11_reachByQueue_ok x a1 a2)) r) 130) := by
  refine kMet.in (by decide) rfl rfl _ rfl ?_
  refine k_iload_n (i := 1) dX11_reachByQueue_0 (rfl : 0 + 1 = 1) rfl rfl ?_
  refine k_iload_n (i := 2) dX11_reachByQueue_1 (rfl : 1 + 1 = 2) rfl rfl ?_
  refine k_callSd2 cv_X11_117 ⟨Nat.le_of_ble_eq_true rfl, Nat.le_of_ble_eq_true rfl⟩ (m_X11_isCell) dX11_reachByQueue_2 (rfl : 2 + 3 = 5) rfl ⟨Nat.le_of_ble_eq_true rfl, Nat.le_of_ble_eq_true rfl⟩ ?_
  refine k_if_ne (tgt := 18) dX11_reachByQueue_5 (rfl : 5 + 3 = 8) (by decide) (fun b5 => ?_) (fun b5 => by exact absurd b5 hc)
  refine k_aload_n (i := 0) dX11_reachByQueue_18 (rfl : 18 + 1 = 19) rfl rfl ?_
  refine k_iload_n (i := 1) dX11_reachByQueue_19 (rfl : 19 + 1 = 20) rfl rfl ?_
  refine k_iload_n (i := 2) dX11_reachByQueue_20 (rfl : 20 + 1 = 21) rfl rfl ?_
  refine k_callSd2 cv_X11_121 ⟨Nat.le_of_ble_eq_true rfl, Nat.le_of_ble_eq_true rfl⟩ (m_X11_cellAt) dX11_reachByQueue_21 (rfl : 21 + 3 = 24) rfl ⟨Nat.le_of_ble_eq_true rfl, Nat.le_of_ble_eq_true rfl⟩ ?_
  refine k_callVd1 cv_X11_128 ⟨Nat.le_of_ble_eq_true rfl, Nat.le_of_ble_eq_true rfl⟩ (m_X11_connectedByQueue) dX11_reachByQueue_24 (rfl : 24 + 3 = 27) (Nat.le_of_ble_eq_true rfl) rfl rfl rfl ⟨Nat.le_of_ble_eq_true rfl, Nat.le_of_ble_eq_true rfl⟩ ?_
  refine k_lret rfl dX11_reachByQueue_27 (Nat.le_of_ble_eq_true rfl) (Nat.le_of_ble_eq_true rfl) ?_
  exact kRt_of rfl rfl
theorem ic_and {a b : Int32} : ¬ f_X11_isCell (a &&& 7) (b &&& 7) = 0 := by
  obtain ⟨i, hi, e1⟩ := pk_andE a (m := 7) 3 (by decide)
  obtain ⟨j, hj, e2⟩ := pk_andE b (m := 7) 3 (by decide)
  rw [e1, e2]
  have h : ∀ i, i < 8 → ∀ j, j < 8 → ¬ f_X11_isCell (nI i) (nI j) = 0 := by decide
  exact h i (by omega) j (by omega)
def f_X11_isReachConsistent (x : kK) (a1 : Int32) : Int32 := if (lg_cmp (f_X11_reach_ok x (a1 &&& 7) ((a1 >>> ((3 : Int32) &&& 31)) &&& 7)) (f_X11_reachByQueue_ok x (a1 &&& 7) ((a1 >>> ((3 : Int32) &&& 31)) &&& 7))) = 0 then 1 else 0
def g_X11_isReachConsistent (x : kK) (a1 : Int32) : kK := if (lg_cmp (f_X11_reach_ok x (a1 &&& 7) ((a1 >>> ((3 : Int32) &&& 31)) &&& 7)) (f_X11_reachByQueue_ok x (a1 &&& 7) ((a1 >>> ((3 : Int32) &&& 31)) &&& 7))) = 0 then (g_X11_reachByQueue_ok x (a1 &&& 7) ((a1 >>> ((3 : Int32) &&& 31)) &&& 7)) else (g_X11_reachByQueue_ok x (a1 &&& 7) ((a1 >>> ((3 : Int32) &&& 31)) &&& 7))
set_option maxRecDepth 100000 in
set_option maxHeartbeats 4000000 in
theorem m_X11_isReachConsistent {x : kK} {r : kH} {a1 : Int32} : kMet kX11_isReachConsistent false 0 0 [.ref 0, .int a1] (kTp (kHc x) r) 130 (kRt (some (.int (f_X11_isReachConsistent x a1))) (kTp (kHc (g_X11_isReachConsistent x a1)) r) 130) := by
  refine kMet.in (by decide) rfl rfl _ rfl ?_
  refine k_iload_n (i := 1) dX11_isReachConsistent_0 (rfl : 0 + 1 = 1) rfl rfl ?_
  refine k_bipush (v := 7) dX11_isReachConsistent_1 (rfl : 1 + 2 = 3) (by decide) ?_
  refine k_iand dX11_isReachConsistent_3 (rfl : 3 + 1 = 4) ?_
  refine k_istore_n (i := 2) dX11_isReachConsistent_4 (rfl : 4 + 1 = 5) rfl (Nat.le_of_ble_eq_true rfl) ?_
  refine k_ls (ls2 := [.ref 0, .int a1, .int (a1 &&& 7), .retAddr 0]) rfl ?_
  refine k_iload_n (i := 1) dX11_isReachConsistent_5 (rfl : 5 + 1 = 6) rfl rfl ?_
  refine k_iconst (v := 3) dX11_isReachConsistent_6 (rfl : 6 + 1 = 7) (by decide) ?_
  refine k_ishr dX11_isReachConsistent_7 (rfl : 7 + 1 = 8) ?_
  refine k_bipush (v := 7) dX11_isReachConsistent_8 (rfl : 8 + 2 = 10) (by decide) ?_
  refine k_iand dX11_isReachConsistent_10 (rfl : 10 + 1 = 11) ?_
  refine k_istore_n (i := 3) dX11_isReachConsistent_11 (rfl : 11 + 1 = 12) rfl (Nat.le_of_ble_eq_true rfl) ?_
  refine k_ls (ls2 := [.ref 0, .int a1, .int (a1 &&& 7), .int ((a1 >>> ((3 : Int32) &&& 31)) &&& 7)]) rfl ?_
  refine k_aload_n (i := 0) dX11_isReachConsistent_12 (rfl : 12 + 1 = 13) rfl rfl ?_
  refine k_iload_n (i := 2) dX11_isReachConsistent_13 (rfl : 13 + 1 = 14) rfl rfl ?_
  refine k_iload_n (i := 3) dX11_isReachConsistent_14 (rfl : 14 + 1 = 15) rfl rfl ?_
  refine k_callVd2 cv_X11_502 ⟨Nat.le_of_ble_eq_true rfl, Nat.le_of_ble_eq_true rfl⟩ (m_X11_reach_ok ic_and) dX11_isReachConsistent_15 (rfl : 15 + 3 = 18) (Nat.le_of_ble_eq_true rfl) rfl rfl rfl ⟨Nat.le_of_ble_eq_true rfl, Nat.le_of_ble_eq_true rfl⟩ ?_
  refine k_aload_n (i := 0) dX11_isReachConsistent_18 (rfl : 18 + 1 = 19) rfl rfl ?_
  refine k_iload_n (i := 2) dX11_isReachConsistent_19 (rfl : 19 + 1 = 20) rfl rfl ?_
  refine k_iload_n (i := 3) dX11_isReachConsistent_20 (rfl : 20 + 1 = 21) rfl rfl ?_
  refine k_callVd2 cv_X11_506 ⟨Nat.le_of_ble_eq_true rfl, Nat.le_of_ble_eq_true rfl⟩ (m_X11_reachByQueue_ok ic_and) dX11_isReachConsistent_21 (rfl : 21 + 3 = 24) (Nat.le_of_ble_eq_true rfl) rfl rfl rfl ⟨Nat.le_of_ble_eq_true rfl, Nat.le_of_ble_eq_true rfl⟩ ?_
  refine k_lcmp dX11_isReachConsistent_24 (rfl : 24 + 1 = 25) ?_
  refine k_if_ne (tgt := 32) dX11_isReachConsistent_25 (rfl : 25 + 3 = 28) (by decide) (fun b25 => ?_) (fun b25 => ?_)
  · refine k_iconst (v := 0) dX11_isReachConsistent_32 (rfl : 32 + 1 = 33) (by decide) ?_
    refine k_iret rfl rfl dX11_isReachConsistent_33 (Nat.le_of_ble_eq_true rfl) (Nat.le_of_ble_eq_true rfl) ?_
    exact kRt_of (congrArg (fun z => some (Value.int z)) (Eq.symm (if_neg (show ¬ ((lg_cmp (f_X11_reach_ok x (a1 &&& 7) ((a1 >>> ((3 : Int32) &&& 31)) &&& 7)) (f_X11_reachByQueue_ok x (a1 &&& 7) ((a1 >>> ((3 : Int32) &&& 31)) &&& 7))) = 0) from b25)))) (congrArg (fun z => kTp (kHc z) r) (Eq.symm (if_neg (show ¬ ((lg_cmp (f_X11_reach_ok x (a1 &&& 7) ((a1 >>> ((3 : Int32) &&& 31)) &&& 7)) (f_X11_reachByQueue_ok x (a1 &&& 7) ((a1 >>> ((3 : Int32) &&& 31)) &&& 7))) = 0) from b25))))
  · refine k_iconst (v := 1) dX11_isReachConsistent_28 (rfl : 28 + 1 = 29) (by decide) ?_
    refine k_goto (tgt := 33) dX11_isReachConsistent_29 (by decide) ?_
    refine k_iret rfl rfl dX11_isReachConsistent_33 (Nat.le_of_ble_eq_true rfl) (Nat.le_of_ble_eq_true rfl) ?_
    exact kRt_of (congrArg (fun z => some (Value.int z)) (Eq.symm (if_pos (show (lg_cmp (f_X11_reach_ok x (a1 &&& 7) ((a1 >>> ((3 : Int32) &&& 31)) &&& 7)) (f_X11_reachByQueue_ok x (a1 &&& 7) ((a1 >>> ((3 : Int32) &&& 31)) &&& 7))) = 0 from b25)))) (congrArg (fun z => kTp (kHc z) r) (Eq.symm (if_pos (show (lg_cmp (f_X11_reach_ok x (a1 &&& 7) ((a1 >>> ((3 : Int32) &&& 31)) &&& 7)) (f_X11_reachByQueue_ok x (a1 &&& 7) ((a1 >>> ((3 : Int32) &&& 31)) &&& 7))) = 0 from b25))))
theorem cqI_co {a : Int32} {i k : Nat} : ∀ {x : kK} {j : Nat} {s : Int64} {w : Int32}, (cqI a i k x j s w).1.1 = x.1 ∧ (kChn x → kChn (cqI a i k x j s w).1) := by
  induction k with
  | zero => intro x j s w; exact ⟨rfl, id⟩
  | succ k ih =>
    intro x j s w
    rw [cqI]
    repeat' split
    all_goals exact ih
theorem cqL_co {a : Int32} {k : Nat} : ∀ {x : kK} {j : Nat} {s : Int64} {w : Int32}, (cqL a k x j s w).1.1 = x.1 ∧ (kChn x → kChn (cqL a k x j s w).1) := by
  induction k with
  | zero => intro x j s w; exact ⟨rfl, id⟩
  | succ k ih =>
    intro x j s w
    rw [cqL]
    split
    · exact ⟨rfl, id⟩
    · have h1 := cqI_co (a := a) (i := j) (k := 4) (x := x) (j := 0) (s := s) (w := w)
      have h2 := ih (x := (cqI a j 4 x 0 s w).1) (j := j + 1) (s := (cqI a j 4 x 0 s w).2.1) (w := (cqI a j 4 x 0 s w).2.2)
      exact ⟨h2.1.trans h1.1, fun hc => h2.2 (h1.2 hc)⟩
theorem irc_co {x : kK} {a : Int32} : (g_X11_isReachConsistent x a).1 = x.1 ∧ (kChn x → kChn (g_X11_isReachConsistent x a)) := by
  unfold g_X11_isReachConsistent g_X11_reachByQueue_ok g_X11_connectedByQueue
  repeat' split
  all_goals first
    | exact ⟨rfl, id⟩
    | exact ⟨cqL_co.1, fun hc => cqL_co.2 hc⟩
theorem step_ch {x : kK} {d : Int32} (h : kChn x) : kChn (g_X4_step x d) := by
  unfold g_X4_step
  repeat' split
  all_goals exact h
theorem flA_ch {d : Int32} {k : Nat} : ∀ {x : kK} {f : Int32}, kChn x → kChn (flA d k x f).1 := by
  induction k with
  | zero => intro x f h; exact h
  | succ k ih =>
    intro x f h
    rw [flA]
    split
    · exact h
    · exact ih (step_ch h)
theorem flW_ch {j : Nat} {y : kK × Int32} (h : kChn y.1) : kChn (flW j y).1 := by
  unfold flW
  repeat' split
  all_goals first
    | exact h
    | exact step_ch h
theorem flP_ch {m : Nat} {t : Int32} {k : Nat} : ∀ {j : Nat} {d : Int32} {y : kK × Int32}, kChn y.1 → kChn (flP m t k j d y).1 := by
  induction k with
  | zero => intro j d y h; exact h
  | succ k ih =>
    intro j d y h
    rw [flP]
    split
    · exact h
    · exact ih (flW_ch (flA_ch h))
theorem fly_ch {x : kK} {a : Int32} (h : kChn x) : kChn (g_X4_fly x a) := by
  show kChn (flE (fly0 x a))
  have h2 : kChn (fly0 x a).1 := flP_ch (y := (kkS (kkR x 0 (upd (x.2.2.1 0) 0 ((x.1 0).2.1 0))) 2 0, 1)) h
  exact h2
theorem stL_co {c : Int32} {k : Nat} : ∀ {x : kK} {j : Nat} {s : Int64}, (stL c k x j s).1.1 = x.1 ∧ (kChn x → kChn (stL c k x j s).1) := by
  induction k with
  | zero => intro x j s; exact ⟨rfl, id⟩
  | succ k ih =>
    intro x j s
    rw [stL]
    split
    all_goals exact ⟨ih.1.trans fly_ok.2, fun h => ih.2 (fly_ch h)⟩
theorem fb_co {x : kK} {a : Int32} : (g_X11_flightBits_ok x a).1 = x.1 ∧ (kChn x → kChn (g_X11_flightBits_ok x a)) := ⟨fly_ok.2, fly_ch⟩
theorem sbL_co {c : Int32} {k : Nat} : ∀ {x : kK} {j : Nat} {s : Int64}, (sbL c k x j s).1.1 = x.1 ∧ (kChn x → kChn (sbL c k x j s).1) := by
  induction k with
  | zero => intro x j s; exact ⟨rfl, id⟩
  | succ k ih =>
    intro x j s
    rw [sbL]
    exact ⟨ih.1.trans fb_co.1, fun h => ih.2 (fb_co.2 h)⟩
theorem sv_co {x : kK} {a : Int32} : (g_X11_servingThrows_ok x a).1 = x.1 ∧ (kChn x → kChn (g_X11_servingThrows_ok x a)) := stL_co
theorem sw_co {x : kK} {a : Int32} : (g_X11_servingThrowsBySets_ok x a).1 = x.1 ∧ (kChn x → kChn (g_X11_servingThrowsBySets_ok x a)) := sbL_co
theorem pa_nI {c : Int32} {j : Nat} (h : j < c.toNatClampNeg) : ¬ b2i (decide (0 ≤ nI j ∧ nI j < c)) = 0 := by
  intro h2
  have hl := cl_lt c
  refine b2i_eq h2 ⟨?_, ?_⟩
  · exact nI_le (a := 0) (b := j) (by omega) (by omega)
  · rcases Classical.em (c ≤ nI j) with q | q
    · exact absurd q (cl_nle h)
    · simp only [Int32.lt_iff_toInt_lt, Int32.le_iff_toInt_le] at *
      omega
def asL (c : Int32) : Nat → kK → Nat → kK × Int32
  | 0, x, j => (x, 1)
  | k + 1, x, j => if (lg_cmp (f_X11_servingThrows_ok x (nI j)) (f_X11_servingThrowsBySets_ok (g_X11_servingThrows_ok x (nI j)) (nI j))) = 0 then (asL c k (g_X11_servingThrowsBySets_ok (g_X11_servingThrows_ok x (nI j)) (nI j)) (j + 1)) else ((g_X11_servingThrowsBySets_ok (g_X11_servingThrows_ok x (nI j)) (nI j)), 0)
set_option maxRecDepth 100000 in
set_option maxHeartbeats 4000000 in
theorem lasL {r : kH} {c : Int32}  : ∀ (k : Nat) (x : kK) (j : Nat), j + k = (Int32.toNatClampNeg c) → (x.1 0).2.1 3 = c → kIv (x.1 0) → kEv kX11_areServingThrowsConsistent (kRm kX11_areServingThrowsConsistent 0 0) (kFm false 0 0 ((kRt (some (.int (asL c k x j).2)) (kTp (kHc (asL c k x j).1) r) 130))) false 2 [.ref 0, .int (nI j)] [] (kTp (kHc x) r) 130 0 0 := by
  intro k
  induction k with
  | zero =>
    intro x j hj en iv
    refine k_iload_n (i := 1) dX11_areServingThrowsConsistent_2 (rfl : 2 + 1 = 3) rfl rfl ?_
    refine k_aload_n (i := 0) dX11_areServingThrowsConsistent_3 (rfl : 3 + 1 = 4) rfl rfl ?_
    refine k_get 11 0 fg_X11_12 dX11_areServingThrowsConsistent_4 (rfl : 4 + 3 = 7) (Nat.le_of_ble_eq_true rfl) rfl rfl ?_
    refine k_get 9 0 fg_X11_100 dX11_areServingThrowsConsistent_7 (rfl : 7 + 3 = 10) (Nat.le_of_ble_eq_true rfl) rfl rfl ?_
    refine k_get 10 4 fg_X11_169 dX11_areServingThrowsConsistent_10 (rfl : 10 + 3 = 13) (Nat.le_of_ble_eq_true rfl) rfl rfl ?_
    refine k_icmp_ge (tgt := 38) dX11_areServingThrowsConsistent_13 (rfl : 13 + 3 = 16) (by decide) (fun b13 => ?_) (fun b13 => by exact absurd (by rw [en]; exact cl_le (by omega)) b13)
    refine k_iconst (v := 1) dX11_areServingThrowsConsistent_38 (rfl : 38 + 1 = 39) (by decide) ?_
    refine k_iret rfl rfl dX11_areServingThrowsConsistent_39 (Nat.le_of_ble_eq_true rfl) (Nat.le_of_ble_eq_true rfl) ?_
    have e9 : (asL c 0 x j) = (x, 1) := by rw [asL]
    exact kRt_of (congrArg (fun z => some (Value.int z)) (Eq.symm (congrArg Prod.snd e9))) (congrArg (fun z => kTp (kHc z) r) (Eq.symm (congrArg Prod.fst e9)))
  | succ k ih =>
    intro x j hj en iv
    refine k_iload_n (i := 1) dX11_areServingThrowsConsistent_2 (rfl : 2 + 1 = 3) rfl rfl ?_
    refine k_aload_n (i := 0) dX11_areServingThrowsConsistent_3 (rfl : 3 + 1 = 4) rfl rfl ?_
    refine k_get 11 0 fg_X11_12 dX11_areServingThrowsConsistent_4 (rfl : 4 + 3 = 7) (Nat.le_of_ble_eq_true rfl) rfl rfl ?_
    refine k_get 9 0 fg_X11_100 dX11_areServingThrowsConsistent_7 (rfl : 7 + 3 = 10) (Nat.le_of_ble_eq_true rfl) rfl rfl ?_
    refine k_get 10 4 fg_X11_169 dX11_areServingThrowsConsistent_10 (rfl : 10 + 3 = 13) (Nat.le_of_ble_eq_true rfl) rfl rfl ?_
    refine k_icmp_ge (tgt := 38) dX11_areServingThrowsConsistent_13 (rfl : 13 + 3 = 16) (by decide) (fun b13 => by exact absurd (by rw [en] at b13; exact b13) (cl_nle (by omega))) (fun b13 => ?_)
    refine k_aload_n (i := 0) dX11_areServingThrowsConsistent_16 (rfl : 16 + 1 = 17) rfl rfl ?_
    refine k_iload_n (i := 1) dX11_areServingThrowsConsistent_17 (rfl : 17 + 1 = 18) rfl rfl ?_
    refine k_callVd1 cv_X11_509 ⟨Nat.le_of_ble_eq_true rfl, Nat.le_of_ble_eq_true rfl⟩ (m_X11_servingThrows_ok iv (by rw [en]; exact pa_nI (by omega))) dX11_areServingThrowsConsistent_18 (rfl : 18 + 3 = 21) (Nat.le_of_ble_eq_true rfl) rfl rfl rfl ⟨Nat.le_of_ble_eq_true rfl, Nat.le_of_ble_eq_true rfl⟩ ?_
    refine k_aload_n (i := 0) dX11_areServingThrowsConsistent_21 (rfl : 21 + 1 = 22) rfl rfl ?_
    refine k_iload_n (i := 1) dX11_areServingThrowsConsistent_22 (rfl : 22 + 1 = 23) rfl rfl ?_
    refine k_callVd1 cv_X11_512 ⟨Nat.le_of_ble_eq_true rfl, Nat.le_of_ble_eq_true rfl⟩ (m_X11_servingThrowsBySets_ok (by rw [sv_co.1]; exact iv) (by rw [sv_co.1, en]; exact pa_nI (by omega))) dX11_areServingThrowsConsistent_23 (rfl : 23 + 3 = 26) (Nat.le_of_ble_eq_true rfl) rfl rfl rfl ⟨Nat.le_of_ble_eq_true rfl, Nat.le_of_ble_eq_true rfl⟩ ?_
    refine k_lcmp dX11_areServingThrowsConsistent_26 (rfl : 26 + 1 = 27) ?_
    refine k_if_eq (tgt := 32) dX11_areServingThrowsConsistent_27 (rfl : 27 + 3 = 30) (by decide) (fun b27 => ?_) (fun b27 => ?_)
    · refine k_iinc (i := 1) (v := (nI (j + 1))) dX11_areServingThrowsConsistent_32 (rfl : 32 + 3 = 35) rfl (Nat.le_of_ble_eq_true rfl) (nI_1 _) ?_
      refine k_ls (ls2 := [.ref 0, .int (nI (j + 1))]) rfl ?_
      refine k_goto (tgt := 2) dX11_areServingThrowsConsistent_35 (by decide) ?_
      rw [asL, if_pos (show (lg_cmp (f_X11_servingThrows_ok x (nI j)) (f_X11_servingThrowsBySets_ok (g_X11_servingThrows_ok x (nI j)) (nI j))) = 0 from b27)]
      exact ih (g_X11_servingThrowsBySets_ok (g_X11_servingThrows_ok x (nI j)) (nI j)) (j + 1) (by omega) (by rw [sw_co.1, sv_co.1]; exact en) (by rw [sw_co.1, sv_co.1]; exact iv)
    · refine k_iconst (v := 0) dX11_areServingThrowsConsistent_30 (rfl : 30 + 1 = 31) (by decide) ?_
      refine k_iret rfl rfl dX11_areServingThrowsConsistent_31 (Nat.le_of_ble_eq_true rfl) (Nat.le_of_ble_eq_true rfl) ?_
      have e9 : (asL c (k + 1) x j) = ((g_X11_servingThrowsBySets_ok (g_X11_servingThrows_ok x (nI j)) (nI j)), 0) := by rw [asL, if_neg (show ¬ ((lg_cmp (f_X11_servingThrows_ok x (nI j)) (f_X11_servingThrowsBySets_ok (g_X11_servingThrows_ok x (nI j)) (nI j))) = 0) from b27)]
      exact kRt_of (congrArg (fun z => some (Value.int z)) (Eq.symm (congrArg Prod.snd e9))) (congrArg (fun z => kTp (kHc z) r) (Eq.symm (congrArg Prod.fst e9)))
set_option maxRecDepth 100000 in
set_option maxHeartbeats 4000000 in
theorem m_X11_areServingThrowsConsistent {x : kK} {r : kH} (iv : kIv (x.1 0)) : kMet kX11_areServingThrowsConsistent false 0 0 [.ref 0] (kTp (kHc x) r) 130 (kRt (some (.int (asL ((x.1 0).2.1 3) (Int32.toNatClampNeg ((x.1 0).2.1 3)) x 0).2)) (kTp (kHc (asL ((x.1 0).2.1 3) (Int32.toNatClampNeg ((x.1 0).2.1 3)) x 0).1) r) 130) := by
  refine kMet.in (by decide) rfl rfl _ rfl ?_
  refine k_iconst (v := 0) dX11_areServingThrowsConsistent_0 (rfl : 0 + 1 = 1) (by decide) ?_
  refine k_istore_n (i := 1) dX11_areServingThrowsConsistent_1 (rfl : 1 + 1 = 2) rfl (Nat.le_of_ble_eq_true rfl) ?_
  exact lasL _ x 0 (by omega) rfl iv
theorem asL_co {c : Int32} {k : Nat} : ∀ {x : kK} {j : Nat}, (asL c k x j).1.1 = x.1 ∧ (kChn x → kChn (asL c k x j).1) := by
  induction k with
  | zero => intro x j; exact ⟨rfl, id⟩
  | succ k ih =>
    intro x j
    rw [asL]
    split
    · exact ⟨ih.1.trans (sw_co.1.trans sv_co.1), fun h => ih.2 (sw_co.2 (sv_co.2 h))⟩
    · exact ⟨sw_co.1.trans sv_co.1, fun h => sw_co.2 (sv_co.2 h)⟩
theorem qfI_ch {p k : Nat} (hp : p < 8) : ∀ {x : kK} {j : Nat}, j + k = p → kChn x → kChn (qfI p k x j).1 := by
  induction k with
  | zero => intro x j _ h; exact h
  | succ k ih =>
    intro x j hj h
    rw [qfI]
    split
    · exact h
    · exact ih (by omega) (ch_1 h (kQu_at h.2.2.2 (pl_dn hp (pl_nz (by omega) hp))))
theorem qfL_ch {c : Int32} {k : Nat} : ∀ {x : kK} {j : Nat}, j + k ≤ 8 → kChn x → kChn (qfL c k x j) := by
  induction k with
  | zero => intro x j _ h; exact h
  | succ k ih =>
    intro x j hj h
    rw [qfL]
    exact ih (by omega) (ch_1 (qfI_ch (by omega) (by omega) h) (vp_in_nI (by omega) (by omega)))
theorem mh_co {x : kK} (iv : kIv (x.1 0)) : (g_X11_mostHearings x).1 = x.1 ∧ (kChn x → kChn (g_X11_mostHearings x)) := by
  unfold g_X11_mostHearings g_X5_mostByQueue
  exact ⟨qfL_core, fun h => qfL_ch (by have := iv_pl iv; unfold kPn; omega) h⟩
theorem mcL_co {c : Int32} {k : Nat} : ∀ {x : kK} {j : Nat} {e : Int32}, j + k ≤ 8 → kChn x → (mcL c k x j e).1.1 = x.1 ∧ kChn (mcL c k x j e).1 := by
  induction k with
  | zero => intro x j e _ h; exact ⟨rfl, h⟩
  | succ k ih =>
    intro x j e hj h
    have h1 := fh_ok h (a := nI j) (vp_in_nI (by omega) (by omega))
    rw [mcL]
    split
    all_goals
      have h2 := fun e2 => ih (x := g_X5_findHour x (nI j)) (j := j + 1) (e := e2) (by omega) h1.1
      exact ⟨(h2 _).1.trans h1.2, (h2 _).2⟩
theorem mc_co {x : kK} (iv : kIv (x.1 0)) (h : kChn x) : (g_X11_mostHearingsByChains x).1 = x.1 ∧ kChn (g_X11_mostHearingsByChains x) := by
  unfold g_X11_mostHearingsByChains g_X5_mostByChains
  exact mcL_co (by have := iv_pl iv; unfold kPn; omega) (ch_f3 (ch_f2 h))
def f_X11_isConsistent (x : kK)  : Int32 := if (lg_cmp (f_X11_turnedTrees x ) (f_X11_turnedTreesByCells x )) = 0 then (if (f_X11_isReachConsistent x 0) = 0 then 0 else (if (f_X11_isReachConsistent (g_X11_isReachConsistent x 0) 21) = 0 then 0 else (if (f_X11_isReachConsistent (g_X11_isReachConsistent (g_X11_isReachConsistent x 0) 21) 42) = 0 then 0 else (if (f_X11_isReachConsistent (g_X11_isReachConsistent (g_X11_isReachConsistent (g_X11_isReachConsistent x 0) 21) 42) 63) = 0 then 0 else (if (f_X11_isReachConsistent (g_X11_isReachConsistent (g_X11_isReachConsistent (g_X11_isReachConsistent (g_X11_isReachConsistent x 0) 21) 42) 63) (((g_X11_isReachConsistent (g_X11_isReachConsistent (g_X11_isReachConsistent (g_X11_isReachConsistent x 0) 21) 42) 63).1 0).2.1 0)) = 0 then 0 else (if (asL (((g_X11_isReachConsistent (g_X11_isReachConsistent (g_X11_isReachConsistent (g_X11_isReachConsistent (g_X11_isReachConsistent x 0) 21) 42) 63) (((g_X11_isReachConsistent (g_X11_isReachConsistent (g_X11_isReachConsistent (g_X11_isReachConsistent x 0) 21) 42) 63).1 0).2.1 0)).1 0).2.1 3) (Int32.toNatClampNeg (((g_X11_isReachConsistent (g_X11_isReachConsistent (g_X11_isReachConsistent (g_X11_isReachConsistent (g_X11_isReachConsistent x 0) 21) 42) 63) (((g_X11_isReachConsistent (g_X11_isReachConsistent (g_X11_isReachConsistent (g_X11_isReachConsistent x 0) 21) 42) 63).1 0).2.1 0)).1 0).2.1 3)) (g_X11_isReachConsistent (g_X11_isReachConsistent (g_X11_isReachConsistent (g_X11_isReachConsistent (g_X11_isReachConsistent x 0) 21) 42) 63) (((g_X11_isReachConsistent (g_X11_isReachConsistent (g_X11_isReachConsistent (g_X11_isReachConsistent x 0) 21) 42) 63).1 0).2.1 0)) 0).2 = 0 then 0 else (if (f_X11_mostHearings (asL (((g_X11_isReachConsistent (g_X11_isReachConsistent (g_X11_isReachConsistent (g_X11_isReachConsistent (g_X11_isReachConsistent x 0) 21) 42) 63) (((g_X11_isReachConsistent (g_X11_isReachConsistent (g_X11_isReachConsistent (g_X11_isReachConsistent x 0) 21) 42) 63).1 0).2.1 0)).1 0).2.1 3) (Int32.toNatClampNeg (((g_X11_isReachConsistent (g_X11_isReachConsistent (g_X11_isReachConsistent (g_X11_isReachConsistent (g_X11_isReachConsistent x 0) 21) 42) 63) (((g_X11_isReachConsistent (g_X11_isReachConsistent (g_X11_isReachConsistent (g_X11_isReachConsistent x 0) 21) 42) 63).1 0).2.1 0)).1 0).2.1 3)) (g_X11_isReachConsistent (g_X11_isReachConsistent (g_X11_isReachConsistent (g_X11_isReachConsistent (g_X11_isReachConsistent x 0) 21) 42) 63) (((g_X11_isReachConsistent (g_X11_isReachConsistent (g_X11_isReachConsistent (g_X11_isReachConsistent x 0) 21) 42) 63).1 0).2.1 0)) 0).1 ) = (f_X11_mostHearingsByChains (g_X11_mostHearings (asL (((g_X11_isReachConsistent (g_X11_isReachConsistent (g_X11_isReachConsistent (g_X11_isReachConsistent (g_X11_isReachConsistent x 0) 21) 42) 63) (((g_X11_isReachConsistent (g_X11_isReachConsistent (g_X11_isReachConsistent (g_X11_isReachConsistent x 0) 21) 42) 63).1 0).2.1 0)).1 0).2.1 3) (Int32.toNatClampNeg (((g_X11_isReachConsistent (g_X11_isReachConsistent (g_X11_isReachConsistent (g_X11_isReachConsistent (g_X11_isReachConsistent x 0) 21) 42) 63) (((g_X11_isReachConsistent (g_X11_isReachConsistent (g_X11_isReachConsistent (g_X11_isReachConsistent x 0) 21) 42) 63).1 0).2.1 0)).1 0).2.1 3)) (g_X11_isReachConsistent (g_X11_isReachConsistent (g_X11_isReachConsistent (g_X11_isReachConsistent (g_X11_isReachConsistent x 0) 21) 42) 63) (((g_X11_isReachConsistent (g_X11_isReachConsistent (g_X11_isReachConsistent (g_X11_isReachConsistent x 0) 21) 42) 63).1 0).2.1 0)) 0).1 ) ) then (if (f_X11_coins (g_X11_mostHearingsByChains (g_X11_mostHearings (asL (((g_X11_isReachConsistent (g_X11_isReachConsistent (g_X11_isReachConsistent (g_X11_isReachConsistent (g_X11_isReachConsistent x 0) 21) 42) 63) (((g_X11_isReachConsistent (g_X11_isReachConsistent (g_X11_isReachConsistent (g_X11_isReachConsistent x 0) 21) 42) 63).1 0).2.1 0)).1 0).2.1 3) (Int32.toNatClampNeg (((g_X11_isReachConsistent (g_X11_isReachConsistent (g_X11_isReachConsistent (g_X11_isReachConsistent (g_X11_isReachConsistent x 0) 21) 42) 63) (((g_X11_isReachConsistent (g_X11_isReachConsistent (g_X11_isReachConsistent (g_X11_isReachConsistent x 0) 21) 42) 63).1 0).2.1 0)).1 0).2.1 3)) (g_X11_isReachConsistent (g_X11_isReachConsistent (g_X11_isReachConsistent (g_X11_isReachConsistent (g_X11_isReachConsistent x 0) 21) 42) 63) (((g_X11_isReachConsistent (g_X11_isReachConsistent (g_X11_isReachConsistent (g_X11_isReachConsistent x 0) 21) 42) 63).1 0).2.1 0)) 0).1 ) ) ) = (f_X11_coinsByAccounts (g_X11_mostHearingsByChains (g_X11_mostHearings (asL (((g_X11_isReachConsistent (g_X11_isReachConsistent (g_X11_isReachConsistent (g_X11_isReachConsistent (g_X11_isReachConsistent x 0) 21) 42) 63) (((g_X11_isReachConsistent (g_X11_isReachConsistent (g_X11_isReachConsistent (g_X11_isReachConsistent x 0) 21) 42) 63).1 0).2.1 0)).1 0).2.1 3) (Int32.toNatClampNeg (((g_X11_isReachConsistent (g_X11_isReachConsistent (g_X11_isReachConsistent (g_X11_isReachConsistent (g_X11_isReachConsistent x 0) 21) 42) 63) (((g_X11_isReachConsistent (g_X11_isReachConsistent (g_X11_isReachConsistent (g_X11_isReachConsistent x 0) 21) 42) 63).1 0).2.1 0)).1 0).2.1 3)) (g_X11_isReachConsistent (g_X11_isReachConsistent (g_X11_isReachConsistent (g_X11_isReachConsistent (g_X11_isReachConsistent x 0) 21) 42) 63) (((g_X11_isReachConsistent (g_X11_isReachConsistent (g_X11_isReachConsistent (g_X11_isReachConsistent x 0) 21) 42) 63).1 0).2.1 0)) 0).1 ) ) ) then 1 else 0) else 0))))))) else 0
def g_X11_isConsistent (x : kK)  : kK := if (lg_cmp (f_X11_turnedTrees x ) (f_X11_turnedTreesByCells x )) = 0 then (if (f_X11_isReachConsistent x 0) = 0 then (g_X11_isReachConsistent x 0) else (if (f_X11_isReachConsistent (g_X11_isReachConsistent x 0) 21) = 0 then (g_X11_isReachConsistent (g_X11_isReachConsistent x 0) 21) else (if (f_X11_isReachConsistent (g_X11_isReachConsistent (g_X11_isReachConsistent x 0) 21) 42) = 0 then (g_X11_isReachConsistent (g_X11_isReachConsistent (g_X11_isReachConsistent x 0) 21) 42) else (if (f_X11_isReachConsistent (g_X11_isReachConsistent (g_X11_isReachConsistent (g_X11_isReachConsistent x 0) 21) 42) 63) = 0 then (g_X11_isReachConsistent (g_X11_isReachConsistent (g_X11_isReachConsistent (g_X11_isReachConsistent x 0) 21) 42) 63) else (if (f_X11_isReachConsistent (g_X11_isReachConsistent (g_X11_isReachConsistent (g_X11_isReachConsistent (g_X11_isReachConsistent x 0) 21) 42) 63) (((g_X11_isReachConsistent (g_X11_isReachConsistent (g_X11_isReachConsistent (g_X11_isReachConsistent x 0) 21) 42) 63).1 0).2.1 0)) = 0 then (g_X11_isReachConsistent (g_X11_isReachConsistent (g_X11_isReachConsistent (g_X11_isReachConsistent (g_X11_isReachConsistent x 0) 21) 42) 63) (((g_X11_isReachConsistent (g_X11_isReachConsistent (g_X11_isReachConsistent (g_X11_isReachConsistent x 0) 21) 42) 63).1 0).2.1 0)) else (if (asL (((g_X11_isReachConsistent (g_X11_isReachConsistent (g_X11_isReachConsistent (g_X11_isReachConsistent (g_X11_isReachConsistent x 0) 21) 42) 63) (((g_X11_isReachConsistent (g_X11_isReachConsistent (g_X11_isReachConsistent (g_X11_isReachConsistent x 0) 21) 42) 63).1 0).2.1 0)).1 0).2.1 3) (Int32.toNatClampNeg (((g_X11_isReachConsistent (g_X11_isReachConsistent (g_X11_isReachConsistent (g_X11_isReachConsistent (g_X11_isReachConsistent x 0) 21) 42) 63) (((g_X11_isReachConsistent (g_X11_isReachConsistent (g_X11_isReachConsistent (g_X11_isReachConsistent x 0) 21) 42) 63).1 0).2.1 0)).1 0).2.1 3)) (g_X11_isReachConsistent (g_X11_isReachConsistent (g_X11_isReachConsistent (g_X11_isReachConsistent (g_X11_isReachConsistent x 0) 21) 42) 63) (((g_X11_isReachConsistent (g_X11_isReachConsistent (g_X11_isReachConsistent (g_X11_isReachConsistent x 0) 21) 42) 63).1 0).2.1 0)) 0).2 = 0 then ((asL (((g_X11_isReachConsistent (g_X11_isReachConsistent (g_X11_isReachConsistent (g_X11_isReachConsistent (g_X11_isReachConsistent x 0) 21) 42) 63) (((g_X11_isReachConsistent (g_X11_isReachConsistent (g_X11_isReachConsistent (g_X11_isReachConsistent x 0) 21) 42) 63).1 0).2.1 0)).1 0).2.1 3) (Int32.toNatClampNeg (((g_X11_isReachConsistent (g_X11_isReachConsistent (g_X11_isReachConsistent (g_X11_isReachConsistent (g_X11_isReachConsistent x 0) 21) 42) 63) (((g_X11_isReachConsistent (g_X11_isReachConsistent (g_X11_isReachConsistent (g_X11_isReachConsistent x 0) 21) 42) 63).1 0).2.1 0)).1 0).2.1 3)) (g_X11_isReachConsistent (g_X11_isReachConsistent (g_X11_isReachConsistent (g_X11_isReachConsistent (g_X11_isReachConsistent x 0) 21) 42) 63) (((g_X11_isReachConsistent (g_X11_isReachConsistent (g_X11_isReachConsistent (g_X11_isReachConsistent x 0) 21) 42) 63).1 0).2.1 0)) 0).1) else (if (f_X11_mostHearings (asL (((g_X11_isReachConsistent (g_X11_isReachConsistent (g_X11_isReachConsistent (g_X11_isReachConsistent (g_X11_isReachConsistent x 0) 21) 42) 63) (((g_X11_isReachConsistent (g_X11_isReachConsistent (g_X11_isReachConsistent (g_X11_isReachConsistent x 0) 21) 42) 63).1 0).2.1 0)).1 0).2.1 3) (Int32.toNatClampNeg (((g_X11_isReachConsistent (g_X11_isReachConsistent (g_X11_isReachConsistent (g_X11_isReachConsistent (g_X11_isReachConsistent x 0) 21) 42) 63) (((g_X11_isReachConsistent (g_X11_isReachConsistent (g_X11_isReachConsistent (g_X11_isReachConsistent x 0) 21) 42) 63).1 0).2.1 0)).1 0).2.1 3)) (g_X11_isReachConsistent (g_X11_isReachConsistent (g_X11_isReachConsistent (g_X11_isReachConsistent (g_X11_isReachConsistent x 0) 21) 42) 63) (((g_X11_isReachConsistent (g_X11_isReachConsistent (g_X11_isReachConsistent (g_X11_isReachConsistent x 0) 21) 42) 63).1 0).2.1 0)) 0).1 ) = (f_X11_mostHearingsByChains (g_X11_mostHearings (asL (((g_X11_isReachConsistent (g_X11_isReachConsistent (g_X11_isReachConsistent (g_X11_isReachConsistent (g_X11_isReachConsistent x 0) 21) 42) 63) (((g_X11_isReachConsistent (g_X11_isReachConsistent (g_X11_isReachConsistent (g_X11_isReachConsistent x 0) 21) 42) 63).1 0).2.1 0)).1 0).2.1 3) (Int32.toNatClampNeg (((g_X11_isReachConsistent (g_X11_isReachConsistent (g_X11_isReachConsistent (g_X11_isReachConsistent (g_X11_isReachConsistent x 0) 21) 42) 63) (((g_X11_isReachConsistent (g_X11_isReachConsistent (g_X11_isReachConsistent (g_X11_isReachConsistent x 0) 21) 42) 63).1 0).2.1 0)).1 0).2.1 3)) (g_X11_isReachConsistent (g_X11_isReachConsistent (g_X11_isReachConsistent (g_X11_isReachConsistent (g_X11_isReachConsistent x 0) 21) 42) 63) (((g_X11_isReachConsistent (g_X11_isReachConsistent (g_X11_isReachConsistent (g_X11_isReachConsistent x 0) 21) 42) 63).1 0).2.1 0)) 0).1 ) ) then (if (f_X11_coins (g_X11_mostHearingsByChains (g_X11_mostHearings (asL (((g_X11_isReachConsistent (g_X11_isReachConsistent (g_X11_isReachConsistent (g_X11_isReachConsistent (g_X11_isReachConsistent x 0) 21) 42) 63) (((g_X11_isReachConsistent (g_X11_isReachConsistent (g_X11_isReachConsistent (g_X11_isReachConsistent x 0) 21) 42) 63).1 0).2.1 0)).1 0).2.1 3) (Int32.toNatClampNeg (((g_X11_isReachConsistent (g_X11_isReachConsistent (g_X11_isReachConsistent (g_X11_isReachConsistent (g_X11_isReachConsistent x 0) 21) 42) 63) (((g_X11_isReachConsistent (g_X11_isReachConsistent (g_X11_isReachConsistent (g_X11_isReachConsistent x 0) 21) 42) 63).1 0).2.1 0)).1 0).2.1 3)) (g_X11_isReachConsistent (g_X11_isReachConsistent (g_X11_isReachConsistent (g_X11_isReachConsistent (g_X11_isReachConsistent x 0) 21) 42) 63) (((g_X11_isReachConsistent (g_X11_isReachConsistent (g_X11_isReachConsistent (g_X11_isReachConsistent x 0) 21) 42) 63).1 0).2.1 0)) 0).1 ) ) ) = (f_X11_coinsByAccounts (g_X11_mostHearingsByChains (g_X11_mostHearings (asL (((g_X11_isReachConsistent (g_X11_isReachConsistent (g_X11_isReachConsistent (g_X11_isReachConsistent (g_X11_isReachConsistent x 0) 21) 42) 63) (((g_X11_isReachConsistent (g_X11_isReachConsistent (g_X11_isReachConsistent (g_X11_isReachConsistent x 0) 21) 42) 63).1 0).2.1 0)).1 0).2.1 3) (Int32.toNatClampNeg (((g_X11_isReachConsistent (g_X11_isReachConsistent (g_X11_isReachConsistent (g_X11_isReachConsistent (g_X11_isReachConsistent x 0) 21) 42) 63) (((g_X11_isReachConsistent (g_X11_isReachConsistent (g_X11_isReachConsistent (g_X11_isReachConsistent x 0) 21) 42) 63).1 0).2.1 0)).1 0).2.1 3)) (g_X11_isReachConsistent (g_X11_isReachConsistent (g_X11_isReachConsistent (g_X11_isReachConsistent (g_X11_isReachConsistent x 0) 21) 42) 63) (((g_X11_isReachConsistent (g_X11_isReachConsistent (g_X11_isReachConsistent (g_X11_isReachConsistent x 0) 21) 42) 63).1 0).2.1 0)) 0).1 ) ) ) then (g_X11_mostHearingsByChains (g_X11_mostHearings (asL (((g_X11_isReachConsistent (g_X11_isReachConsistent (g_X11_isReachConsistent (g_X11_isReachConsistent (g_X11_isReachConsistent x 0) 21) 42) 63) (((g_X11_isReachConsistent (g_X11_isReachConsistent (g_X11_isReachConsistent (g_X11_isReachConsistent x 0) 21) 42) 63).1 0).2.1 0)).1 0).2.1 3) (Int32.toNatClampNeg (((g_X11_isReachConsistent (g_X11_isReachConsistent (g_X11_isReachConsistent (g_X11_isReachConsistent (g_X11_isReachConsistent x 0) 21) 42) 63) (((g_X11_isReachConsistent (g_X11_isReachConsistent (g_X11_isReachConsistent (g_X11_isReachConsistent x 0) 21) 42) 63).1 0).2.1 0)).1 0).2.1 3)) (g_X11_isReachConsistent (g_X11_isReachConsistent (g_X11_isReachConsistent (g_X11_isReachConsistent (g_X11_isReachConsistent x 0) 21) 42) 63) (((g_X11_isReachConsistent (g_X11_isReachConsistent (g_X11_isReachConsistent (g_X11_isReachConsistent x 0) 21) 42) 63).1 0).2.1 0)) 0).1 ) ) else (g_X11_mostHearingsByChains (g_X11_mostHearings (asL (((g_X11_isReachConsistent (g_X11_isReachConsistent (g_X11_isReachConsistent (g_X11_isReachConsistent (g_X11_isReachConsistent x 0) 21) 42) 63) (((g_X11_isReachConsistent (g_X11_isReachConsistent (g_X11_isReachConsistent (g_X11_isReachConsistent x 0) 21) 42) 63).1 0).2.1 0)).1 0).2.1 3) (Int32.toNatClampNeg (((g_X11_isReachConsistent (g_X11_isReachConsistent (g_X11_isReachConsistent (g_X11_isReachConsistent (g_X11_isReachConsistent x 0) 21) 42) 63) (((g_X11_isReachConsistent (g_X11_isReachConsistent (g_X11_isReachConsistent (g_X11_isReachConsistent x 0) 21) 42) 63).1 0).2.1 0)).1 0).2.1 3)) (g_X11_isReachConsistent (g_X11_isReachConsistent (g_X11_isReachConsistent (g_X11_isReachConsistent (g_X11_isReachConsistent x 0) 21) 42) 63) (((g_X11_isReachConsistent (g_X11_isReachConsistent (g_X11_isReachConsistent (g_X11_isReachConsistent x 0) 21) 42) 63).1 0).2.1 0)) 0).1 ) )) else (g_X11_mostHearingsByChains (g_X11_mostHearings (asL (((g_X11_isReachConsistent (g_X11_isReachConsistent (g_X11_isReachConsistent (g_X11_isReachConsistent (g_X11_isReachConsistent x 0) 21) 42) 63) (((g_X11_isReachConsistent (g_X11_isReachConsistent (g_X11_isReachConsistent (g_X11_isReachConsistent x 0) 21) 42) 63).1 0).2.1 0)).1 0).2.1 3) (Int32.toNatClampNeg (((g_X11_isReachConsistent (g_X11_isReachConsistent (g_X11_isReachConsistent (g_X11_isReachConsistent (g_X11_isReachConsistent x 0) 21) 42) 63) (((g_X11_isReachConsistent (g_X11_isReachConsistent (g_X11_isReachConsistent (g_X11_isReachConsistent x 0) 21) 42) 63).1 0).2.1 0)).1 0).2.1 3)) (g_X11_isReachConsistent (g_X11_isReachConsistent (g_X11_isReachConsistent (g_X11_isReachConsistent (g_X11_isReachConsistent x 0) 21) 42) 63) (((g_X11_isReachConsistent (g_X11_isReachConsistent (g_X11_isReachConsistent (g_X11_isReachConsistent x 0) 21) 42) 63).1 0).2.1 0)) 0).1 ) )))))))) else x
set_option maxRecDepth 100000 in
set_option maxHeartbeats 4000000 in
theorem m_X11_isConsistent {x : kK} {r : kH} (iv : kIv (x.1 0)) (hc : kChn x) : kMet kX11_isConsistent false 0 0 [.ref 0] (kTp (kHc x) r) 130 (kRt (some (.int (f_X11_isConsistent x ))) (kTp (kHc (g_X11_isConsistent x )) r) 130) := by
  refine kMet.in (by decide) rfl rfl _ rfl ?_
  refine k_aload_n (i := 0) dX11_isConsistent_0 (rfl : 0 + 1 = 1) rfl rfl ?_
  refine k_callVd0 cv_X11_403 ⟨Nat.le_of_ble_eq_true rfl, Nat.le_of_ble_eq_true rfl⟩ (m_X11_turnedTrees) dX11_isConsistent_1 (rfl : 1 + 3 = 4) (Nat.le_of_ble_eq_true rfl) rfl rfl rfl ⟨Nat.le_of_ble_eq_true rfl, Nat.le_of_ble_eq_true rfl⟩ ?_
  refine k_aload_n (i := 0) dX11_isConsistent_4 (rfl : 4 + 1 = 5) rfl rfl ?_
  refine k_callVd0 cv_X11_406 ⟨Nat.le_of_ble_eq_true rfl, Nat.le_of_ble_eq_true rfl⟩ (m_X11_turnedTreesByCells) dX11_isConsistent_5 (rfl : 5 + 3 = 8) (Nat.le_of_ble_eq_true rfl) rfl rfl rfl ⟨Nat.le_of_ble_eq_true rfl, Nat.le_of_ble_eq_true rfl⟩ ?_
  refine k_lcmp dX11_isConsistent_8 (rfl : 8 + 1 = 9) ?_
  refine k_if_ne (tgt := 97) dX11_isConsistent_9 (rfl : 9 + 3 = 12) (by decide) (fun b9 => ?_) (fun b9 => ?_)
  · refine k_iconst (v := 0) dX11_isConsistent_97 (rfl : 97 + 1 = 98) (by decide) ?_
    refine k_iret rfl rfl dX11_isConsistent_98 (Nat.le_of_ble_eq_true rfl) (Nat.le_of_ble_eq_true rfl) ?_
    exact kRt_of (congrArg (fun z => some (Value.int z)) (Eq.symm (if_neg (show ¬ ((lg_cmp (f_X11_turnedTrees x ) (f_X11_turnedTreesByCells x )) = 0) from b9)))) (congrArg (fun z => kTp (kHc z) r) (Eq.symm (if_neg (show ¬ ((lg_cmp (f_X11_turnedTrees x ) (f_X11_turnedTreesByCells x )) = 0) from b9))))
  · refine k_aload_n (i := 0) dX11_isConsistent_12 (rfl : 12 + 1 = 13) rfl rfl ?_
    refine k_iconst (v := 0) dX11_isConsistent_13 (rfl : 13 + 1 = 14) (by decide) ?_
    refine k_callVd1 cv_X11_409 ⟨Nat.le_of_ble_eq_true rfl, Nat.le_of_ble_eq_true rfl⟩ (m_X11_isReachConsistent) dX11_isConsistent_14 (rfl : 14 + 3 = 17) (Nat.le_of_ble_eq_true rfl) rfl rfl rfl ⟨Nat.le_of_ble_eq_true rfl, Nat.le_of_ble_eq_true rfl⟩ ?_
    generalize hg1 : (g_X11_isReachConsistent x 0) = y1
    have vy1 : kIv (y1.1 0) := by rw [← hg1, irc_co.1]; exact iv
    have cy1 : kChn y1 := by rw [← hg1]; exact irc_co.2 hc
    refine k_if_eq (tgt := 97) dX11_isConsistent_17 (rfl : 17 + 3 = 20) (by decide) (fun b17 => ?_) (fun b17 => ?_)
    · refine k_iconst (v := 0) dX11_isConsistent_97 (rfl : 97 + 1 = 98) (by decide) ?_
      refine k_iret rfl rfl dX11_isConsistent_98 (Nat.le_of_ble_eq_true rfl) (Nat.le_of_ble_eq_true rfl) ?_
      subst hg1
      exact kRt_of (congrArg (fun z => some (Value.int z)) (Eq.symm (Eq.trans (if_pos (show (lg_cmp (f_X11_turnedTrees x ) (f_X11_turnedTreesByCells x )) = 0 from b9)) (if_pos (show (f_X11_isReachConsistent x 0) = 0 from b17))))) (congrArg (fun z => kTp (kHc z) r) (Eq.symm (Eq.trans (if_pos (show (lg_cmp (f_X11_turnedTrees x ) (f_X11_turnedTreesByCells x )) = 0 from b9)) (if_pos (show (f_X11_isReachConsistent x 0) = 0 from b17)))))
    · refine k_aload_n (i := 0) dX11_isConsistent_20 (rfl : 20 + 1 = 21) rfl rfl ?_
      refine k_bipush (v := 21) dX11_isConsistent_21 (rfl : 21 + 2 = 23) (by decide) ?_
      refine k_callVd1 cv_X11_409 ⟨Nat.le_of_ble_eq_true rfl, Nat.le_of_ble_eq_true rfl⟩ (m_X11_isReachConsistent) dX11_isConsistent_23 (rfl : 23 + 3 = 26) (Nat.le_of_ble_eq_true rfl) rfl rfl rfl ⟨Nat.le_of_ble_eq_true rfl, Nat.le_of_ble_eq_true rfl⟩ ?_
      generalize hg2 : (g_X11_isReachConsistent y1 21) = y2
      have vy2 : kIv (y2.1 0) := by rw [← hg2, irc_co.1]; exact vy1
      have cy2 : kChn y2 := by rw [← hg2]; exact irc_co.2 cy1
      refine k_if_eq (tgt := 97) dX11_isConsistent_26 (rfl : 26 + 3 = 29) (by decide) (fun b26 => ?_) (fun b26 => ?_)
      · refine k_iconst (v := 0) dX11_isConsistent_97 (rfl : 97 + 1 = 98) (by decide) ?_
        refine k_iret rfl rfl dX11_isConsistent_98 (Nat.le_of_ble_eq_true rfl) (Nat.le_of_ble_eq_true rfl) ?_
        subst hg2
        subst hg1
        exact kRt_of (congrArg (fun z => some (Value.int z)) (Eq.symm (Eq.trans (if_pos (show (lg_cmp (f_X11_turnedTrees x ) (f_X11_turnedTreesByCells x )) = 0 from b9)) (Eq.trans (if_neg (show ¬ ((f_X11_isReachConsistent x 0) = 0) from b17)) (if_pos (show (f_X11_isReachConsistent (g_X11_isReachConsistent x 0) 21) = 0 from b26)))))) (congrArg (fun z => kTp (kHc z) r) (Eq.symm (Eq.trans (if_pos (show (lg_cmp (f_X11_turnedTrees x ) (f_X11_turnedTreesByCells x )) = 0 from b9)) (Eq.trans (if_neg (show ¬ ((f_X11_isReachConsistent x 0) = 0) from b17)) (if_pos (show (f_X11_isReachConsistent (g_X11_isReachConsistent x 0) 21) = 0 from b26))))))
      · refine k_aload_n (i := 0) dX11_isConsistent_29 (rfl : 29 + 1 = 30) rfl rfl ?_
        refine k_bipush (v := 42) dX11_isConsistent_30 (rfl : 30 + 2 = 32) (by decide) ?_
        refine k_callVd1 cv_X11_409 ⟨Nat.le_of_ble_eq_true rfl, Nat.le_of_ble_eq_true rfl⟩ (m_X11_isReachConsistent) dX11_isConsistent_32 (rfl : 32 + 3 = 35) (Nat.le_of_ble_eq_true rfl) rfl rfl rfl ⟨Nat.le_of_ble_eq_true rfl, Nat.le_of_ble_eq_true rfl⟩ ?_
        generalize hg3 : (g_X11_isReachConsistent y2 42) = y3
        have vy3 : kIv (y3.1 0) := by rw [← hg3, irc_co.1]; exact vy2
        have cy3 : kChn y3 := by rw [← hg3]; exact irc_co.2 cy2
        refine k_if_eq (tgt := 97) dX11_isConsistent_35 (rfl : 35 + 3 = 38) (by decide) (fun b35 => ?_) (fun b35 => ?_)
        · refine k_iconst (v := 0) dX11_isConsistent_97 (rfl : 97 + 1 = 98) (by decide) ?_
          refine k_iret rfl rfl dX11_isConsistent_98 (Nat.le_of_ble_eq_true rfl) (Nat.le_of_ble_eq_true rfl) ?_
          subst hg3
          subst hg2
          subst hg1
          exact kRt_of (congrArg (fun z => some (Value.int z)) (Eq.symm (Eq.trans (if_pos (show (lg_cmp (f_X11_turnedTrees x ) (f_X11_turnedTreesByCells x )) = 0 from b9)) (Eq.trans (if_neg (show ¬ ((f_X11_isReachConsistent x 0) = 0) from b17)) (Eq.trans (if_neg (show ¬ ((f_X11_isReachConsistent (g_X11_isReachConsistent x 0) 21) = 0) from b26)) (if_pos (show (f_X11_isReachConsistent (g_X11_isReachConsistent (g_X11_isReachConsistent x 0) 21) 42) = 0 from b35))))))) (congrArg (fun z => kTp (kHc z) r) (Eq.symm (Eq.trans (if_pos (show (lg_cmp (f_X11_turnedTrees x ) (f_X11_turnedTreesByCells x )) = 0 from b9)) (Eq.trans (if_neg (show ¬ ((f_X11_isReachConsistent x 0) = 0) from b17)) (Eq.trans (if_neg (show ¬ ((f_X11_isReachConsistent (g_X11_isReachConsistent x 0) 21) = 0) from b26)) (if_pos (show (f_X11_isReachConsistent (g_X11_isReachConsistent (g_X11_isReachConsistent x 0) 21) 42) = 0 from b35)))))))
        · refine k_aload_n (i := 0) dX11_isConsistent_38 (rfl : 38 + 1 = 39) rfl rfl ?_
          refine k_bipush (v := 63) dX11_isConsistent_39 (rfl : 39 + 2 = 41) (by decide) ?_
          refine k_callVd1 cv_X11_409 ⟨Nat.le_of_ble_eq_true rfl, Nat.le_of_ble_eq_true rfl⟩ (m_X11_isReachConsistent) dX11_isConsistent_41 (rfl : 41 + 3 = 44) (Nat.le_of_ble_eq_true rfl) rfl rfl rfl ⟨Nat.le_of_ble_eq_true rfl, Nat.le_of_ble_eq_true rfl⟩ ?_
          generalize hg4 : (g_X11_isReachConsistent y3 63) = y4
          have vy4 : kIv (y4.1 0) := by rw [← hg4, irc_co.1]; exact vy3
          have cy4 : kChn y4 := by rw [← hg4]; exact irc_co.2 cy3
          refine k_if_eq (tgt := 97) dX11_isConsistent_44 (rfl : 44 + 3 = 47) (by decide) (fun b44 => ?_) (fun b44 => ?_)
          · refine k_iconst (v := 0) dX11_isConsistent_97 (rfl : 97 + 1 = 98) (by decide) ?_
            refine k_iret rfl rfl dX11_isConsistent_98 (Nat.le_of_ble_eq_true rfl) (Nat.le_of_ble_eq_true rfl) ?_
            subst hg4
            subst hg3
            subst hg2
            subst hg1
            exact kRt_of (congrArg (fun z => some (Value.int z)) (Eq.symm (Eq.trans (if_pos (show (lg_cmp (f_X11_turnedTrees x ) (f_X11_turnedTreesByCells x )) = 0 from b9)) (Eq.trans (if_neg (show ¬ ((f_X11_isReachConsistent x 0) = 0) from b17)) (Eq.trans (if_neg (show ¬ ((f_X11_isReachConsistent (g_X11_isReachConsistent x 0) 21) = 0) from b26)) (Eq.trans (if_neg (show ¬ ((f_X11_isReachConsistent (g_X11_isReachConsistent (g_X11_isReachConsistent x 0) 21) 42) = 0) from b35)) (if_pos (show (f_X11_isReachConsistent (g_X11_isReachConsistent (g_X11_isReachConsistent (g_X11_isReachConsistent x 0) 21) 42) 63) = 0 from b44)))))))) (congrArg (fun z => kTp (kHc z) r) (Eq.symm (Eq.trans (if_pos (show (lg_cmp (f_X11_turnedTrees x ) (f_X11_turnedTreesByCells x )) = 0 from b9)) (Eq.trans (if_neg (show ¬ ((f_X11_isReachConsistent x 0) = 0) from b17)) (Eq.trans (if_neg (show ¬ ((f_X11_isReachConsistent (g_X11_isReachConsistent x 0) 21) = 0) from b26)) (Eq.trans (if_neg (show ¬ ((f_X11_isReachConsistent (g_X11_isReachConsistent (g_X11_isReachConsistent x 0) 21) 42) = 0) from b35)) (if_pos (show (f_X11_isReachConsistent (g_X11_isReachConsistent (g_X11_isReachConsistent (g_X11_isReachConsistent x 0) 21) 42) 63) = 0 from b44))))))))
          · refine k_aload_n (i := 0) dX11_isConsistent_47 (rfl : 47 + 1 = 48) rfl rfl ?_
            refine k_aload_n (i := 0) dX11_isConsistent_48 (rfl : 48 + 1 = 49) rfl rfl ?_
            refine k_get 11 0 fg_X11_12 dX11_isConsistent_49 (rfl : 49 + 3 = 52) (Nat.le_of_ble_eq_true rfl) rfl rfl ?_
            refine k_get 9 0 fg_X11_100 dX11_isConsistent_52 (rfl : 52 + 3 = 55) (Nat.le_of_ble_eq_true rfl) rfl rfl ?_
            refine k_get 10 1 fg_X11_142 dX11_isConsistent_55 (rfl : 55 + 3 = 58) (Nat.le_of_ble_eq_true rfl) rfl rfl ?_
            refine k_callVd1 cv_X11_409 ⟨Nat.le_of_ble_eq_true rfl, Nat.le_of_ble_eq_true rfl⟩ (m_X11_isReachConsistent) dX11_isConsistent_58 (rfl : 58 + 3 = 61) (Nat.le_of_ble_eq_true rfl) rfl rfl rfl ⟨Nat.le_of_ble_eq_true rfl, Nat.le_of_ble_eq_true rfl⟩ ?_
            generalize hg5 : (g_X11_isReachConsistent y4 ((y4.1 0).2.1 0)) = y5
            have vy5 : kIv (y5.1 0) := by rw [← hg5, irc_co.1]; exact vy4
            have cy5 : kChn y5 := by rw [← hg5]; exact irc_co.2 cy4
            refine k_if_eq (tgt := 97) dX11_isConsistent_61 (rfl : 61 + 3 = 64) (by decide) (fun b61 => ?_) (fun b61 => ?_)
            · refine k_iconst (v := 0) dX11_isConsistent_97 (rfl : 97 + 1 = 98) (by decide) ?_
              refine k_iret rfl rfl dX11_isConsistent_98 (Nat.le_of_ble_eq_true rfl) (Nat.le_of_ble_eq_true rfl) ?_
              subst hg5
              subst hg4
              subst hg3
              subst hg2
              subst hg1
              exact kRt_of (congrArg (fun z => some (Value.int z)) (Eq.symm (Eq.trans (if_pos (show (lg_cmp (f_X11_turnedTrees x ) (f_X11_turnedTreesByCells x )) = 0 from b9)) (Eq.trans (if_neg (show ¬ ((f_X11_isReachConsistent x 0) = 0) from b17)) (Eq.trans (if_neg (show ¬ ((f_X11_isReachConsistent (g_X11_isReachConsistent x 0) 21) = 0) from b26)) (Eq.trans (if_neg (show ¬ ((f_X11_isReachConsistent (g_X11_isReachConsistent (g_X11_isReachConsistent x 0) 21) 42) = 0) from b35)) (Eq.trans (if_neg (show ¬ ((f_X11_isReachConsistent (g_X11_isReachConsistent (g_X11_isReachConsistent (g_X11_isReachConsistent x 0) 21) 42) 63) = 0) from b44)) (if_pos (show (f_X11_isReachConsistent (g_X11_isReachConsistent (g_X11_isReachConsistent (g_X11_isReachConsistent (g_X11_isReachConsistent x 0) 21) 42) 63) (((g_X11_isReachConsistent (g_X11_isReachConsistent (g_X11_isReachConsistent (g_X11_isReachConsistent x 0) 21) 42) 63).1 0).2.1 0)) = 0 from b61))))))))) (congrArg (fun z => kTp (kHc z) r) (Eq.symm (Eq.trans (if_pos (show (lg_cmp (f_X11_turnedTrees x ) (f_X11_turnedTreesByCells x )) = 0 from b9)) (Eq.trans (if_neg (show ¬ ((f_X11_isReachConsistent x 0) = 0) from b17)) (Eq.trans (if_neg (show ¬ ((f_X11_isReachConsistent (g_X11_isReachConsistent x 0) 21) = 0) from b26)) (Eq.trans (if_neg (show ¬ ((f_X11_isReachConsistent (g_X11_isReachConsistent (g_X11_isReachConsistent x 0) 21) 42) = 0) from b35)) (Eq.trans (if_neg (show ¬ ((f_X11_isReachConsistent (g_X11_isReachConsistent (g_X11_isReachConsistent (g_X11_isReachConsistent x 0) 21) 42) 63) = 0) from b44)) (if_pos (show (f_X11_isReachConsistent (g_X11_isReachConsistent (g_X11_isReachConsistent (g_X11_isReachConsistent (g_X11_isReachConsistent x 0) 21) 42) 63) (((g_X11_isReachConsistent (g_X11_isReachConsistent (g_X11_isReachConsistent (g_X11_isReachConsistent x 0) 21) 42) 63).1 0).2.1 0)) = 0 from b61)))))))))
            · refine k_aload_n (i := 0) dX11_isConsistent_64 (rfl : 64 + 1 = 65) rfl rfl ?_
              refine k_callVd0 cv_X11_412 ⟨Nat.le_of_ble_eq_true rfl, Nat.le_of_ble_eq_true rfl⟩ (m_X11_areServingThrowsConsistent vy5) dX11_isConsistent_65 (rfl : 65 + 3 = 68) (Nat.le_of_ble_eq_true rfl) rfl rfl rfl ⟨Nat.le_of_ble_eq_true rfl, Nat.le_of_ble_eq_true rfl⟩ ?_
              generalize hg6 : (asL ((y5.1 0).2.1 3) (Int32.toNatClampNeg ((y5.1 0).2.1 3)) y5 0).1 = y6
              have vy6 : kIv (y6.1 0) := by rw [← hg6, asL_co.1]; exact vy5
              have cy6 : kChn y6 := by rw [← hg6]; exact asL_co.2 cy5
              refine k_if_eq (tgt := 97) dX11_isConsistent_68 (rfl : 68 + 3 = 71) (by decide) (fun b68 => ?_) (fun b68 => ?_)
              · refine k_iconst (v := 0) dX11_isConsistent_97 (rfl : 97 + 1 = 98) (by decide) ?_
                refine k_iret rfl rfl dX11_isConsistent_98 (Nat.le_of_ble_eq_true rfl) (Nat.le_of_ble_eq_true rfl) ?_
                subst hg6
                subst hg5
                subst hg4
                subst hg3
                subst hg2
                subst hg1
                exact kRt_of (congrArg (fun z => some (Value.int z)) (Eq.symm (Eq.trans (if_pos (show (lg_cmp (f_X11_turnedTrees x ) (f_X11_turnedTreesByCells x )) = 0 from b9)) (Eq.trans (if_neg (show ¬ ((f_X11_isReachConsistent x 0) = 0) from b17)) (Eq.trans (if_neg (show ¬ ((f_X11_isReachConsistent (g_X11_isReachConsistent x 0) 21) = 0) from b26)) (Eq.trans (if_neg (show ¬ ((f_X11_isReachConsistent (g_X11_isReachConsistent (g_X11_isReachConsistent x 0) 21) 42) = 0) from b35)) (Eq.trans (if_neg (show ¬ ((f_X11_isReachConsistent (g_X11_isReachConsistent (g_X11_isReachConsistent (g_X11_isReachConsistent x 0) 21) 42) 63) = 0) from b44)) (Eq.trans (if_neg (show ¬ ((f_X11_isReachConsistent (g_X11_isReachConsistent (g_X11_isReachConsistent (g_X11_isReachConsistent (g_X11_isReachConsistent x 0) 21) 42) 63) (((g_X11_isReachConsistent (g_X11_isReachConsistent (g_X11_isReachConsistent (g_X11_isReachConsistent x 0) 21) 42) 63).1 0).2.1 0)) = 0) from b61)) (if_pos (show (asL (((g_X11_isReachConsistent (g_X11_isReachConsistent (g_X11_isReachConsistent (g_X11_isReachConsistent (g_X11_isReachConsistent x 0) 21) 42) 63) (((g_X11_isReachConsistent (g_X11_isReachConsistent (g_X11_isReachConsistent (g_X11_isReachConsistent x 0) 21) 42) 63).1 0).2.1 0)).1 0).2.1 3) (Int32.toNatClampNeg (((g_X11_isReachConsistent (g_X11_isReachConsistent (g_X11_isReachConsistent (g_X11_isReachConsistent (g_X11_isReachConsistent x 0) 21) 42) 63) (((g_X11_isReachConsistent (g_X11_isReachConsistent (g_X11_isReachConsistent (g_X11_isReachConsistent x 0) 21) 42) 63).1 0).2.1 0)).1 0).2.1 3)) (g_X11_isReachConsistent (g_X11_isReachConsistent (g_X11_isReachConsistent (g_X11_isReachConsistent (g_X11_isReachConsistent x 0) 21) 42) 63) (((g_X11_isReachConsistent (g_X11_isReachConsistent (g_X11_isReachConsistent (g_X11_isReachConsistent x 0) 21) 42) 63).1 0).2.1 0)) 0).2 = 0 from b68)))))))))) (congrArg (fun z => kTp (kHc z) r) (Eq.symm (Eq.trans (if_pos (show (lg_cmp (f_X11_turnedTrees x ) (f_X11_turnedTreesByCells x )) = 0 from b9)) (Eq.trans (if_neg (show ¬ ((f_X11_isReachConsistent x 0) = 0) from b17)) (Eq.trans (if_neg (show ¬ ((f_X11_isReachConsistent (g_X11_isReachConsistent x 0) 21) = 0) from b26)) (Eq.trans (if_neg (show ¬ ((f_X11_isReachConsistent (g_X11_isReachConsistent (g_X11_isReachConsistent x 0) 21) 42) = 0) from b35)) (Eq.trans (if_neg (show ¬ ((f_X11_isReachConsistent (g_X11_isReachConsistent (g_X11_isReachConsistent (g_X11_isReachConsistent x 0) 21) 42) 63) = 0) from b44)) (Eq.trans (if_neg (show ¬ ((f_X11_isReachConsistent (g_X11_isReachConsistent (g_X11_isReachConsistent (g_X11_isReachConsistent (g_X11_isReachConsistent x 0) 21) 42) 63) (((g_X11_isReachConsistent (g_X11_isReachConsistent (g_X11_isReachConsistent (g_X11_isReachConsistent x 0) 21) 42) 63).1 0).2.1 0)) = 0) from b61)) (if_pos (show (asL (((g_X11_isReachConsistent (g_X11_isReachConsistent (g_X11_isReachConsistent (g_X11_isReachConsistent (g_X11_isReachConsistent x 0) 21) 42) 63) (((g_X11_isReachConsistent (g_X11_isReachConsistent (g_X11_isReachConsistent (g_X11_isReachConsistent x 0) 21) 42) 63).1 0).2.1 0)).1 0).2.1 3) (Int32.toNatClampNeg (((g_X11_isReachConsistent (g_X11_isReachConsistent (g_X11_isReachConsistent (g_X11_isReachConsistent (g_X11_isReachConsistent x 0) 21) 42) 63) (((g_X11_isReachConsistent (g_X11_isReachConsistent (g_X11_isReachConsistent (g_X11_isReachConsistent x 0) 21) 42) 63).1 0).2.1 0)).1 0).2.1 3)) (g_X11_isReachConsistent (g_X11_isReachConsistent (g_X11_isReachConsistent (g_X11_isReachConsistent (g_X11_isReachConsistent x 0) 21) 42) 63) (((g_X11_isReachConsistent (g_X11_isReachConsistent (g_X11_isReachConsistent (g_X11_isReachConsistent x 0) 21) 42) 63).1 0).2.1 0)) 0).2 = 0 from b68))))))))))
              · refine k_aload_n (i := 0) dX11_isConsistent_71 (rfl : 71 + 1 = 72) rfl rfl ?_
                refine k_callVd0 cv_X11_415 ⟨Nat.le_of_ble_eq_true rfl, Nat.le_of_ble_eq_true rfl⟩ (m_X11_mostHearings vy6 cy6) dX11_isConsistent_72 (rfl : 72 + 3 = 75) (Nat.le_of_ble_eq_true rfl) rfl rfl rfl ⟨Nat.le_of_ble_eq_true rfl, Nat.le_of_ble_eq_true rfl⟩ ?_
                generalize hg7 : (g_X11_mostHearings y6 ) = y7
                have vy7 : kIv (y7.1 0) := by rw [← hg7, (mh_co vy6).1]; exact vy6
                have cy7 : kChn y7 := by rw [← hg7]; exact (mh_co vy6).2 cy6
                refine k_aload_n (i := 0) dX11_isConsistent_75 (rfl : 75 + 1 = 76) rfl rfl ?_
                refine k_callVd0 cv_X11_418 ⟨Nat.le_of_ble_eq_true rfl, Nat.le_of_ble_eq_true rfl⟩ (m_X11_mostHearingsByChains vy7 cy7) dX11_isConsistent_76 (rfl : 76 + 3 = 79) (Nat.le_of_ble_eq_true rfl) rfl rfl rfl ⟨Nat.le_of_ble_eq_true rfl, Nat.le_of_ble_eq_true rfl⟩ ?_
                generalize hg8 : (g_X11_mostHearingsByChains y7 ) = y8
                have vy8 : kIv (y8.1 0) := by rw [← hg8, (mc_co vy7 cy7).1]; exact vy7
                have cy8 : kChn y8 := by rw [← hg8]; exact (mc_co vy7 cy7).2
                refine k_icmp_ne (tgt := 97) dX11_isConsistent_79 (rfl : 79 + 3 = 82) (by decide) (fun b79 => ?_) (fun b79 => ?_)
                · refine k_iconst (v := 0) dX11_isConsistent_97 (rfl : 97 + 1 = 98) (by decide) ?_
                  refine k_iret rfl rfl dX11_isConsistent_98 (Nat.le_of_ble_eq_true rfl) (Nat.le_of_ble_eq_true rfl) ?_
                  subst hg8
                  subst hg7
                  subst hg6
                  subst hg5
                  subst hg4
                  subst hg3
                  subst hg2
                  subst hg1
                  exact kRt_of (congrArg (fun z => some (Value.int z)) (Eq.symm (Eq.trans (if_pos (show (lg_cmp (f_X11_turnedTrees x ) (f_X11_turnedTreesByCells x )) = 0 from b9)) (Eq.trans (if_neg (show ¬ ((f_X11_isReachConsistent x 0) = 0) from b17)) (Eq.trans (if_neg (show ¬ ((f_X11_isReachConsistent (g_X11_isReachConsistent x 0) 21) = 0) from b26)) (Eq.trans (if_neg (show ¬ ((f_X11_isReachConsistent (g_X11_isReachConsistent (g_X11_isReachConsistent x 0) 21) 42) = 0) from b35)) (Eq.trans (if_neg (show ¬ ((f_X11_isReachConsistent (g_X11_isReachConsistent (g_X11_isReachConsistent (g_X11_isReachConsistent x 0) 21) 42) 63) = 0) from b44)) (Eq.trans (if_neg (show ¬ ((f_X11_isReachConsistent (g_X11_isReachConsistent (g_X11_isReachConsistent (g_X11_isReachConsistent (g_X11_isReachConsistent x 0) 21) 42) 63) (((g_X11_isReachConsistent (g_X11_isReachConsistent (g_X11_isReachConsistent (g_X11_isReachConsistent x 0) 21) 42) 63).1 0).2.1 0)) = 0) from b61)) (Eq.trans (if_neg (show ¬ ((asL (((g_X11_isReachConsistent (g_X11_isReachConsistent (g_X11_isReachConsistent (g_X11_isReachConsistent (g_X11_isReachConsistent x 0) 21) 42) 63) (((g_X11_isReachConsistent (g_X11_isReachConsistent (g_X11_isReachConsistent (g_X11_isReachConsistent x 0) 21) 42) 63).1 0).2.1 0)).1 0).2.1 3) (Int32.toNatClampNeg (((g_X11_isReachConsistent (g_X11_isReachConsistent (g_X11_isReachConsistent (g_X11_isReachConsistent (g_X11_isReachConsistent x 0) 21) 42) 63) (((g_X11_isReachConsistent (g_X11_isReachConsistent (g_X11_isReachConsistent (g_X11_isReachConsistent x 0) 21) 42) 63).1 0).2.1 0)).1 0).2.1 3)) (g_X11_isReachConsistent (g_X11_isReachConsistent (g_X11_isReachConsistent (g_X11_isReachConsistent (g_X11_isReachConsistent x 0) 21) 42) 63) (((g_X11_isReachConsistent (g_X11_isReachConsistent (g_X11_isReachConsistent (g_X11_isReachConsistent x 0) 21) 42) 63).1 0).2.1 0)) 0).2 = 0) from b68)) (if_neg (show ¬ ((f_X11_mostHearings (asL (((g_X11_isReachConsistent (g_X11_isReachConsistent (g_X11_isReachConsistent (g_X11_isReachConsistent (g_X11_isReachConsistent x 0) 21) 42) 63) (((g_X11_isReachConsistent (g_X11_isReachConsistent (g_X11_isReachConsistent (g_X11_isReachConsistent x 0) 21) 42) 63).1 0).2.1 0)).1 0).2.1 3) (Int32.toNatClampNeg (((g_X11_isReachConsistent (g_X11_isReachConsistent (g_X11_isReachConsistent (g_X11_isReachConsistent (g_X11_isReachConsistent x 0) 21) 42) 63) (((g_X11_isReachConsistent (g_X11_isReachConsistent (g_X11_isReachConsistent (g_X11_isReachConsistent x 0) 21) 42) 63).1 0).2.1 0)).1 0).2.1 3)) (g_X11_isReachConsistent (g_X11_isReachConsistent (g_X11_isReachConsistent (g_X11_isReachConsistent (g_X11_isReachConsistent x 0) 21) 42) 63) (((g_X11_isReachConsistent (g_X11_isReachConsistent (g_X11_isReachConsistent (g_X11_isReachConsistent x 0) 21) 42) 63).1 0).2.1 0)) 0).1 ) = (f_X11_mostHearingsByChains (g_X11_mostHearings (asL (((g_X11_isReachConsistent (g_X11_isReachConsistent (g_X11_isReachConsistent (g_X11_isReachConsistent (g_X11_isReachConsistent x 0) 21) 42) 63) (((g_X11_isReachConsistent (g_X11_isReachConsistent (g_X11_isReachConsistent (g_X11_isReachConsistent x 0) 21) 42) 63).1 0).2.1 0)).1 0).2.1 3) (Int32.toNatClampNeg (((g_X11_isReachConsistent (g_X11_isReachConsistent (g_X11_isReachConsistent (g_X11_isReachConsistent (g_X11_isReachConsistent x 0) 21) 42) 63) (((g_X11_isReachConsistent (g_X11_isReachConsistent (g_X11_isReachConsistent (g_X11_isReachConsistent x 0) 21) 42) 63).1 0).2.1 0)).1 0).2.1 3)) (g_X11_isReachConsistent (g_X11_isReachConsistent (g_X11_isReachConsistent (g_X11_isReachConsistent (g_X11_isReachConsistent x 0) 21) 42) 63) (((g_X11_isReachConsistent (g_X11_isReachConsistent (g_X11_isReachConsistent (g_X11_isReachConsistent x 0) 21) 42) 63).1 0).2.1 0)) 0).1 ) )) from b79))))))))))) (congrArg (fun z => kTp (kHc z) r) (Eq.symm (Eq.trans (if_pos (show (lg_cmp (f_X11_turnedTrees x ) (f_X11_turnedTreesByCells x )) = 0 from b9)) (Eq.trans (if_neg (show ¬ ((f_X11_isReachConsistent x 0) = 0) from b17)) (Eq.trans (if_neg (show ¬ ((f_X11_isReachConsistent (g_X11_isReachConsistent x 0) 21) = 0) from b26)) (Eq.trans (if_neg (show ¬ ((f_X11_isReachConsistent (g_X11_isReachConsistent (g_X11_isReachConsistent x 0) 21) 42) = 0) from b35)) (Eq.trans (if_neg (show ¬ ((f_X11_isReachConsistent (g_X11_isReachConsistent (g_X11_isReachConsistent (g_X11_isReachConsistent x 0) 21) 42) 63) = 0) from b44)) (Eq.trans (if_neg (show ¬ ((f_X11_isReachConsistent (g_X11_isReachConsistent (g_X11_isReachConsistent (g_X11_isReachConsistent (g_X11_isReachConsistent x 0) 21) 42) 63) (((g_X11_isReachConsistent (g_X11_isReachConsistent (g_X11_isReachConsistent (g_X11_isReachConsistent x 0) 21) 42) 63).1 0).2.1 0)) = 0) from b61)) (Eq.trans (if_neg (show ¬ ((asL (((g_X11_isReachConsistent (g_X11_isReachConsistent (g_X11_isReachConsistent (g_X11_isReachConsistent (g_X11_isReachConsistent x 0) 21) 42) 63) (((g_X11_isReachConsistent (g_X11_isReachConsistent (g_X11_isReachConsistent (g_X11_isReachConsistent x 0) 21) 42) 63).1 0).2.1 0)).1 0).2.1 3) (Int32.toNatClampNeg (((g_X11_isReachConsistent (g_X11_isReachConsistent (g_X11_isReachConsistent (g_X11_isReachConsistent (g_X11_isReachConsistent x 0) 21) 42) 63) (((g_X11_isReachConsistent (g_X11_isReachConsistent (g_X11_isReachConsistent (g_X11_isReachConsistent x 0) 21) 42) 63).1 0).2.1 0)).1 0).2.1 3)) (g_X11_isReachConsistent (g_X11_isReachConsistent (g_X11_isReachConsistent (g_X11_isReachConsistent (g_X11_isReachConsistent x 0) 21) 42) 63) (((g_X11_isReachConsistent (g_X11_isReachConsistent (g_X11_isReachConsistent (g_X11_isReachConsistent x 0) 21) 42) 63).1 0).2.1 0)) 0).2 = 0) from b68)) (if_neg (show ¬ ((f_X11_mostHearings (asL (((g_X11_isReachConsistent (g_X11_isReachConsistent (g_X11_isReachConsistent (g_X11_isReachConsistent (g_X11_isReachConsistent x 0) 21) 42) 63) (((g_X11_isReachConsistent (g_X11_isReachConsistent (g_X11_isReachConsistent (g_X11_isReachConsistent x 0) 21) 42) 63).1 0).2.1 0)).1 0).2.1 3) (Int32.toNatClampNeg (((g_X11_isReachConsistent (g_X11_isReachConsistent (g_X11_isReachConsistent (g_X11_isReachConsistent (g_X11_isReachConsistent x 0) 21) 42) 63) (((g_X11_isReachConsistent (g_X11_isReachConsistent (g_X11_isReachConsistent (g_X11_isReachConsistent x 0) 21) 42) 63).1 0).2.1 0)).1 0).2.1 3)) (g_X11_isReachConsistent (g_X11_isReachConsistent (g_X11_isReachConsistent (g_X11_isReachConsistent (g_X11_isReachConsistent x 0) 21) 42) 63) (((g_X11_isReachConsistent (g_X11_isReachConsistent (g_X11_isReachConsistent (g_X11_isReachConsistent x 0) 21) 42) 63).1 0).2.1 0)) 0).1 ) = (f_X11_mostHearingsByChains (g_X11_mostHearings (asL (((g_X11_isReachConsistent (g_X11_isReachConsistent (g_X11_isReachConsistent (g_X11_isReachConsistent (g_X11_isReachConsistent x 0) 21) 42) 63) (((g_X11_isReachConsistent (g_X11_isReachConsistent (g_X11_isReachConsistent (g_X11_isReachConsistent x 0) 21) 42) 63).1 0).2.1 0)).1 0).2.1 3) (Int32.toNatClampNeg (((g_X11_isReachConsistent (g_X11_isReachConsistent (g_X11_isReachConsistent (g_X11_isReachConsistent (g_X11_isReachConsistent x 0) 21) 42) 63) (((g_X11_isReachConsistent (g_X11_isReachConsistent (g_X11_isReachConsistent (g_X11_isReachConsistent x 0) 21) 42) 63).1 0).2.1 0)).1 0).2.1 3)) (g_X11_isReachConsistent (g_X11_isReachConsistent (g_X11_isReachConsistent (g_X11_isReachConsistent (g_X11_isReachConsistent x 0) 21) 42) 63) (((g_X11_isReachConsistent (g_X11_isReachConsistent (g_X11_isReachConsistent (g_X11_isReachConsistent x 0) 21) 42) 63).1 0).2.1 0)) 0).1 ) )) from b79)))))))))))
                · refine k_aload_n (i := 0) dX11_isConsistent_82 (rfl : 82 + 1 = 83) rfl rfl ?_
                  refine k_callVd0 cv_X11_421 ⟨Nat.le_of_ble_eq_true rfl, Nat.le_of_ble_eq_true rfl⟩ (m_X11_coins) dX11_isConsistent_83 (rfl : 83 + 3 = 86) (Nat.le_of_ble_eq_true rfl) rfl rfl rfl ⟨Nat.le_of_ble_eq_true rfl, Nat.le_of_ble_eq_true rfl⟩ ?_
                  refine k_aload_n (i := 0) dX11_isConsistent_86 (rfl : 86 + 1 = 87) rfl rfl ?_
                  refine k_callVd0 cv_X11_423 ⟨Nat.le_of_ble_eq_true rfl, Nat.le_of_ble_eq_true rfl⟩ (m_X11_coinsByAccounts) dX11_isConsistent_87 (rfl : 87 + 3 = 90) (Nat.le_of_ble_eq_true rfl) rfl rfl rfl ⟨Nat.le_of_ble_eq_true rfl, Nat.le_of_ble_eq_true rfl⟩ ?_
                  refine k_icmp_ne (tgt := 97) dX11_isConsistent_90 (rfl : 90 + 3 = 93) (by decide) (fun b90 => ?_) (fun b90 => ?_)
                  · refine k_iconst (v := 0) dX11_isConsistent_97 (rfl : 97 + 1 = 98) (by decide) ?_
                    refine k_iret rfl rfl dX11_isConsistent_98 (Nat.le_of_ble_eq_true rfl) (Nat.le_of_ble_eq_true rfl) ?_
                    subst hg8
                    subst hg7
                    subst hg6
                    subst hg5
                    subst hg4
                    subst hg3
                    subst hg2
                    subst hg1
                    exact kRt_of (congrArg (fun z => some (Value.int z)) (Eq.symm (Eq.trans (if_pos (show (lg_cmp (f_X11_turnedTrees x ) (f_X11_turnedTreesByCells x )) = 0 from b9)) (Eq.trans (if_neg (show ¬ ((f_X11_isReachConsistent x 0) = 0) from b17)) (Eq.trans (if_neg (show ¬ ((f_X11_isReachConsistent (g_X11_isReachConsistent x 0) 21) = 0) from b26)) (Eq.trans (if_neg (show ¬ ((f_X11_isReachConsistent (g_X11_isReachConsistent (g_X11_isReachConsistent x 0) 21) 42) = 0) from b35)) (Eq.trans (if_neg (show ¬ ((f_X11_isReachConsistent (g_X11_isReachConsistent (g_X11_isReachConsistent (g_X11_isReachConsistent x 0) 21) 42) 63) = 0) from b44)) (Eq.trans (if_neg (show ¬ ((f_X11_isReachConsistent (g_X11_isReachConsistent (g_X11_isReachConsistent (g_X11_isReachConsistent (g_X11_isReachConsistent x 0) 21) 42) 63) (((g_X11_isReachConsistent (g_X11_isReachConsistent (g_X11_isReachConsistent (g_X11_isReachConsistent x 0) 21) 42) 63).1 0).2.1 0)) = 0) from b61)) (Eq.trans (if_neg (show ¬ ((asL (((g_X11_isReachConsistent (g_X11_isReachConsistent (g_X11_isReachConsistent (g_X11_isReachConsistent (g_X11_isReachConsistent x 0) 21) 42) 63) (((g_X11_isReachConsistent (g_X11_isReachConsistent (g_X11_isReachConsistent (g_X11_isReachConsistent x 0) 21) 42) 63).1 0).2.1 0)).1 0).2.1 3) (Int32.toNatClampNeg (((g_X11_isReachConsistent (g_X11_isReachConsistent (g_X11_isReachConsistent (g_X11_isReachConsistent (g_X11_isReachConsistent x 0) 21) 42) 63) (((g_X11_isReachConsistent (g_X11_isReachConsistent (g_X11_isReachConsistent (g_X11_isReachConsistent x 0) 21) 42) 63).1 0).2.1 0)).1 0).2.1 3)) (g_X11_isReachConsistent (g_X11_isReachConsistent (g_X11_isReachConsistent (g_X11_isReachConsistent (g_X11_isReachConsistent x 0) 21) 42) 63) (((g_X11_isReachConsistent (g_X11_isReachConsistent (g_X11_isReachConsistent (g_X11_isReachConsistent x 0) 21) 42) 63).1 0).2.1 0)) 0).2 = 0) from b68)) (Eq.trans (if_pos (show (f_X11_mostHearings (asL (((g_X11_isReachConsistent (g_X11_isReachConsistent (g_X11_isReachConsistent (g_X11_isReachConsistent (g_X11_isReachConsistent x 0) 21) 42) 63) (((g_X11_isReachConsistent (g_X11_isReachConsistent (g_X11_isReachConsistent (g_X11_isReachConsistent x 0) 21) 42) 63).1 0).2.1 0)).1 0).2.1 3) (Int32.toNatClampNeg (((g_X11_isReachConsistent (g_X11_isReachConsistent (g_X11_isReachConsistent (g_X11_isReachConsistent (g_X11_isReachConsistent x 0) 21) 42) 63) (((g_X11_isReachConsistent (g_X11_isReachConsistent (g_X11_isReachConsistent (g_X11_isReachConsistent x 0) 21) 42) 63).1 0).2.1 0)).1 0).2.1 3)) (g_X11_isReachConsistent (g_X11_isReachConsistent (g_X11_isReachConsistent (g_X11_isReachConsistent (g_X11_isReachConsistent x 0) 21) 42) 63) (((g_X11_isReachConsistent (g_X11_isReachConsistent (g_X11_isReachConsistent (g_X11_isReachConsistent x 0) 21) 42) 63).1 0).2.1 0)) 0).1 ) = (f_X11_mostHearingsByChains (g_X11_mostHearings (asL (((g_X11_isReachConsistent (g_X11_isReachConsistent (g_X11_isReachConsistent (g_X11_isReachConsistent (g_X11_isReachConsistent x 0) 21) 42) 63) (((g_X11_isReachConsistent (g_X11_isReachConsistent (g_X11_isReachConsistent (g_X11_isReachConsistent x 0) 21) 42) 63).1 0).2.1 0)).1 0).2.1 3) (Int32.toNatClampNeg (((g_X11_isReachConsistent (g_X11_isReachConsistent (g_X11_isReachConsistent (g_X11_isReachConsistent (g_X11_isReachConsistent x 0) 21) 42) 63) (((g_X11_isReachConsistent (g_X11_isReachConsistent (g_X11_isReachConsistent (g_X11_isReachConsistent x 0) 21) 42) 63).1 0).2.1 0)).1 0).2.1 3)) (g_X11_isReachConsistent (g_X11_isReachConsistent (g_X11_isReachConsistent (g_X11_isReachConsistent (g_X11_isReachConsistent x 0) 21) 42) 63) (((g_X11_isReachConsistent (g_X11_isReachConsistent (g_X11_isReachConsistent (g_X11_isReachConsistent x 0) 21) 42) 63).1 0).2.1 0)) 0).1 ) ) from b79)) (if_neg (show ¬ ((f_X11_coins (g_X11_mostHearingsByChains (g_X11_mostHearings (asL (((g_X11_isReachConsistent (g_X11_isReachConsistent (g_X11_isReachConsistent (g_X11_isReachConsistent (g_X11_isReachConsistent x 0) 21) 42) 63) (((g_X11_isReachConsistent (g_X11_isReachConsistent (g_X11_isReachConsistent (g_X11_isReachConsistent x 0) 21) 42) 63).1 0).2.1 0)).1 0).2.1 3) (Int32.toNatClampNeg (((g_X11_isReachConsistent (g_X11_isReachConsistent (g_X11_isReachConsistent (g_X11_isReachConsistent (g_X11_isReachConsistent x 0) 21) 42) 63) (((g_X11_isReachConsistent (g_X11_isReachConsistent (g_X11_isReachConsistent (g_X11_isReachConsistent x 0) 21) 42) 63).1 0).2.1 0)).1 0).2.1 3)) (g_X11_isReachConsistent (g_X11_isReachConsistent (g_X11_isReachConsistent (g_X11_isReachConsistent (g_X11_isReachConsistent x 0) 21) 42) 63) (((g_X11_isReachConsistent (g_X11_isReachConsistent (g_X11_isReachConsistent (g_X11_isReachConsistent x 0) 21) 42) 63).1 0).2.1 0)) 0).1 ) ) ) = (f_X11_coinsByAccounts (g_X11_mostHearingsByChains (g_X11_mostHearings (asL (((g_X11_isReachConsistent (g_X11_isReachConsistent (g_X11_isReachConsistent (g_X11_isReachConsistent (g_X11_isReachConsistent x 0) 21) 42) 63) (((g_X11_isReachConsistent (g_X11_isReachConsistent (g_X11_isReachConsistent (g_X11_isReachConsistent x 0) 21) 42) 63).1 0).2.1 0)).1 0).2.1 3) (Int32.toNatClampNeg (((g_X11_isReachConsistent (g_X11_isReachConsistent (g_X11_isReachConsistent (g_X11_isReachConsistent (g_X11_isReachConsistent x 0) 21) 42) 63) (((g_X11_isReachConsistent (g_X11_isReachConsistent (g_X11_isReachConsistent (g_X11_isReachConsistent x 0) 21) 42) 63).1 0).2.1 0)).1 0).2.1 3)) (g_X11_isReachConsistent (g_X11_isReachConsistent (g_X11_isReachConsistent (g_X11_isReachConsistent (g_X11_isReachConsistent x 0) 21) 42) 63) (((g_X11_isReachConsistent (g_X11_isReachConsistent (g_X11_isReachConsistent (g_X11_isReachConsistent x 0) 21) 42) 63).1 0).2.1 0)) 0).1 ) ) )) from b90)))))))))))) (congrArg (fun z => kTp (kHc z) r) (Eq.symm (Eq.trans (if_pos (show (lg_cmp (f_X11_turnedTrees x ) (f_X11_turnedTreesByCells x )) = 0 from b9)) (Eq.trans (if_neg (show ¬ ((f_X11_isReachConsistent x 0) = 0) from b17)) (Eq.trans (if_neg (show ¬ ((f_X11_isReachConsistent (g_X11_isReachConsistent x 0) 21) = 0) from b26)) (Eq.trans (if_neg (show ¬ ((f_X11_isReachConsistent (g_X11_isReachConsistent (g_X11_isReachConsistent x 0) 21) 42) = 0) from b35)) (Eq.trans (if_neg (show ¬ ((f_X11_isReachConsistent (g_X11_isReachConsistent (g_X11_isReachConsistent (g_X11_isReachConsistent x 0) 21) 42) 63) = 0) from b44)) (Eq.trans (if_neg (show ¬ ((f_X11_isReachConsistent (g_X11_isReachConsistent (g_X11_isReachConsistent (g_X11_isReachConsistent (g_X11_isReachConsistent x 0) 21) 42) 63) (((g_X11_isReachConsistent (g_X11_isReachConsistent (g_X11_isReachConsistent (g_X11_isReachConsistent x 0) 21) 42) 63).1 0).2.1 0)) = 0) from b61)) (Eq.trans (if_neg (show ¬ ((asL (((g_X11_isReachConsistent (g_X11_isReachConsistent (g_X11_isReachConsistent (g_X11_isReachConsistent (g_X11_isReachConsistent x 0) 21) 42) 63) (((g_X11_isReachConsistent (g_X11_isReachConsistent (g_X11_isReachConsistent (g_X11_isReachConsistent x 0) 21) 42) 63).1 0).2.1 0)).1 0).2.1 3) (Int32.toNatClampNeg (((g_X11_isReachConsistent (g_X11_isReachConsistent (g_X11_isReachConsistent (g_X11_isReachConsistent (g_X11_isReachConsistent x 0) 21) 42) 63) (((g_X11_isReachConsistent (g_X11_isReachConsistent (g_X11_isReachConsistent (g_X11_isReachConsistent x 0) 21) 42) 63).1 0).2.1 0)).1 0).2.1 3)) (g_X11_isReachConsistent (g_X11_isReachConsistent (g_X11_isReachConsistent (g_X11_isReachConsistent (g_X11_isReachConsistent x 0) 21) 42) 63) (((g_X11_isReachConsistent (g_X11_isReachConsistent (g_X11_isReachConsistent (g_X11_isReachConsistent x 0) 21) 42) 63).1 0).2.1 0)) 0).2 = 0) from b68)) (Eq.trans (if_pos (show (f_X11_mostHearings (asL (((g_X11_isReachConsistent (g_X11_isReachConsistent (g_X11_isReachConsistent (g_X11_isReachConsistent (g_X11_isReachConsistent x 0) 21) 42) 63) (((g_X11_isReachConsistent (g_X11_isReachConsistent (g_X11_isReachConsistent (g_X11_isReachConsistent x 0) 21) 42) 63).1 0).2.1 0)).1 0).2.1 3) (Int32.toNatClampNeg (((g_X11_isReachConsistent (g_X11_isReachConsistent (g_X11_isReachConsistent (g_X11_isReachConsistent (g_X11_isReachConsistent x 0) 21) 42) 63) (((g_X11_isReachConsistent (g_X11_isReachConsistent (g_X11_isReachConsistent (g_X11_isReachConsistent x 0) 21) 42) 63).1 0).2.1 0)).1 0).2.1 3)) (g_X11_isReachConsistent (g_X11_isReachConsistent (g_X11_isReachConsistent (g_X11_isReachConsistent (g_X11_isReachConsistent x 0) 21) 42) 63) (((g_X11_isReachConsistent (g_X11_isReachConsistent (g_X11_isReachConsistent (g_X11_isReachConsistent x 0) 21) 42) 63).1 0).2.1 0)) 0).1 ) = (f_X11_mostHearingsByChains (g_X11_mostHearings (asL (((g_X11_isReachConsistent (g_X11_isReachConsistent (g_X11_isReachConsistent (g_X11_isReachConsistent (g_X11_isReachConsistent x 0) 21) 42) 63) (((g_X11_isReachConsistent (g_X11_isReachConsistent (g_X11_isReachConsistent (g_X11_isReachConsistent x 0) 21) 42) 63).1 0).2.1 0)).1 0).2.1 3) (Int32.toNatClampNeg (((g_X11_isReachConsistent (g_X11_isReachConsistent (g_X11_isReachConsistent (g_X11_isReachConsistent (g_X11_isReachConsistent x 0) 21) 42) 63) (((g_X11_isReachConsistent (g_X11_isReachConsistent (g_X11_isReachConsistent (g_X11_isReachConsistent x 0) 21) 42) 63).1 0).2.1 0)).1 0).2.1 3)) (g_X11_isReachConsistent (g_X11_isReachConsistent (g_X11_isReachConsistent (g_X11_isReachConsistent (g_X11_isReachConsistent x 0) 21) 42) 63) (((g_X11_isReachConsistent (g_X11_isReachConsistent (g_X11_isReachConsistent (g_X11_isReachConsistent x 0) 21) 42) 63).1 0).2.1 0)) 0).1 ) ) from b79)) (if_neg (show ¬ ((f_X11_coins (g_X11_mostHearingsByChains (g_X11_mostHearings (asL (((g_X11_isReachConsistent (g_X11_isReachConsistent (g_X11_isReachConsistent (g_X11_isReachConsistent (g_X11_isReachConsistent x 0) 21) 42) 63) (((g_X11_isReachConsistent (g_X11_isReachConsistent (g_X11_isReachConsistent (g_X11_isReachConsistent x 0) 21) 42) 63).1 0).2.1 0)).1 0).2.1 3) (Int32.toNatClampNeg (((g_X11_isReachConsistent (g_X11_isReachConsistent (g_X11_isReachConsistent (g_X11_isReachConsistent (g_X11_isReachConsistent x 0) 21) 42) 63) (((g_X11_isReachConsistent (g_X11_isReachConsistent (g_X11_isReachConsistent (g_X11_isReachConsistent x 0) 21) 42) 63).1 0).2.1 0)).1 0).2.1 3)) (g_X11_isReachConsistent (g_X11_isReachConsistent (g_X11_isReachConsistent (g_X11_isReachConsistent (g_X11_isReachConsistent x 0) 21) 42) 63) (((g_X11_isReachConsistent (g_X11_isReachConsistent (g_X11_isReachConsistent (g_X11_isReachConsistent x 0) 21) 42) 63).1 0).2.1 0)) 0).1 ) ) ) = (f_X11_coinsByAccounts (g_X11_mostHearingsByChains (g_X11_mostHearings (asL (((g_X11_isReachConsistent (g_X11_isReachConsistent (g_X11_isReachConsistent (g_X11_isReachConsistent (g_X11_isReachConsistent x 0) 21) 42) 63) (((g_X11_isReachConsistent (g_X11_isReachConsistent (g_X11_isReachConsistent (g_X11_isReachConsistent x 0) 21) 42) 63).1 0).2.1 0)).1 0).2.1 3) (Int32.toNatClampNeg (((g_X11_isReachConsistent (g_X11_isReachConsistent (g_X11_isReachConsistent (g_X11_isReachConsistent (g_X11_isReachConsistent x 0) 21) 42) 63) (((g_X11_isReachConsistent (g_X11_isReachConsistent (g_X11_isReachConsistent (g_X11_isReachConsistent x 0) 21) 42) 63).1 0).2.1 0)).1 0).2.1 3)) (g_X11_isReachConsistent (g_X11_isReachConsistent (g_X11_isReachConsistent (g_X11_isReachConsistent (g_X11_isReachConsistent x 0) 21) 42) 63) (((g_X11_isReachConsistent (g_X11_isReachConsistent (g_X11_isReachConsistent (g_X11_isReachConsistent x 0) 21) 42) 63).1 0).2.1 0)) 0).1 ) ) )) from b90))))))))))))
                  · refine k_iconst (v := 1) dX11_isConsistent_93 (rfl : 93 + 1 = 94) (by decide) ?_
                    refine k_goto (tgt := 98) dX11_isConsistent_94 (by decide) ?_
                    refine k_iret rfl rfl dX11_isConsistent_98 (Nat.le_of_ble_eq_true rfl) (Nat.le_of_ble_eq_true rfl) ?_
                    subst hg8
                    subst hg7
                    subst hg6
                    subst hg5
                    subst hg4
                    subst hg3
                    subst hg2
                    subst hg1
                    exact kRt_of (congrArg (fun z => some (Value.int z)) (Eq.symm (Eq.trans (if_pos (show (lg_cmp (f_X11_turnedTrees x ) (f_X11_turnedTreesByCells x )) = 0 from b9)) (Eq.trans (if_neg (show ¬ ((f_X11_isReachConsistent x 0) = 0) from b17)) (Eq.trans (if_neg (show ¬ ((f_X11_isReachConsistent (g_X11_isReachConsistent x 0) 21) = 0) from b26)) (Eq.trans (if_neg (show ¬ ((f_X11_isReachConsistent (g_X11_isReachConsistent (g_X11_isReachConsistent x 0) 21) 42) = 0) from b35)) (Eq.trans (if_neg (show ¬ ((f_X11_isReachConsistent (g_X11_isReachConsistent (g_X11_isReachConsistent (g_X11_isReachConsistent x 0) 21) 42) 63) = 0) from b44)) (Eq.trans (if_neg (show ¬ ((f_X11_isReachConsistent (g_X11_isReachConsistent (g_X11_isReachConsistent (g_X11_isReachConsistent (g_X11_isReachConsistent x 0) 21) 42) 63) (((g_X11_isReachConsistent (g_X11_isReachConsistent (g_X11_isReachConsistent (g_X11_isReachConsistent x 0) 21) 42) 63).1 0).2.1 0)) = 0) from b61)) (Eq.trans (if_neg (show ¬ ((asL (((g_X11_isReachConsistent (g_X11_isReachConsistent (g_X11_isReachConsistent (g_X11_isReachConsistent (g_X11_isReachConsistent x 0) 21) 42) 63) (((g_X11_isReachConsistent (g_X11_isReachConsistent (g_X11_isReachConsistent (g_X11_isReachConsistent x 0) 21) 42) 63).1 0).2.1 0)).1 0).2.1 3) (Int32.toNatClampNeg (((g_X11_isReachConsistent (g_X11_isReachConsistent (g_X11_isReachConsistent (g_X11_isReachConsistent (g_X11_isReachConsistent x 0) 21) 42) 63) (((g_X11_isReachConsistent (g_X11_isReachConsistent (g_X11_isReachConsistent (g_X11_isReachConsistent x 0) 21) 42) 63).1 0).2.1 0)).1 0).2.1 3)) (g_X11_isReachConsistent (g_X11_isReachConsistent (g_X11_isReachConsistent (g_X11_isReachConsistent (g_X11_isReachConsistent x 0) 21) 42) 63) (((g_X11_isReachConsistent (g_X11_isReachConsistent (g_X11_isReachConsistent (g_X11_isReachConsistent x 0) 21) 42) 63).1 0).2.1 0)) 0).2 = 0) from b68)) (Eq.trans (if_pos (show (f_X11_mostHearings (asL (((g_X11_isReachConsistent (g_X11_isReachConsistent (g_X11_isReachConsistent (g_X11_isReachConsistent (g_X11_isReachConsistent x 0) 21) 42) 63) (((g_X11_isReachConsistent (g_X11_isReachConsistent (g_X11_isReachConsistent (g_X11_isReachConsistent x 0) 21) 42) 63).1 0).2.1 0)).1 0).2.1 3) (Int32.toNatClampNeg (((g_X11_isReachConsistent (g_X11_isReachConsistent (g_X11_isReachConsistent (g_X11_isReachConsistent (g_X11_isReachConsistent x 0) 21) 42) 63) (((g_X11_isReachConsistent (g_X11_isReachConsistent (g_X11_isReachConsistent (g_X11_isReachConsistent x 0) 21) 42) 63).1 0).2.1 0)).1 0).2.1 3)) (g_X11_isReachConsistent (g_X11_isReachConsistent (g_X11_isReachConsistent (g_X11_isReachConsistent (g_X11_isReachConsistent x 0) 21) 42) 63) (((g_X11_isReachConsistent (g_X11_isReachConsistent (g_X11_isReachConsistent (g_X11_isReachConsistent x 0) 21) 42) 63).1 0).2.1 0)) 0).1 ) = (f_X11_mostHearingsByChains (g_X11_mostHearings (asL (((g_X11_isReachConsistent (g_X11_isReachConsistent (g_X11_isReachConsistent (g_X11_isReachConsistent (g_X11_isReachConsistent x 0) 21) 42) 63) (((g_X11_isReachConsistent (g_X11_isReachConsistent (g_X11_isReachConsistent (g_X11_isReachConsistent x 0) 21) 42) 63).1 0).2.1 0)).1 0).2.1 3) (Int32.toNatClampNeg (((g_X11_isReachConsistent (g_X11_isReachConsistent (g_X11_isReachConsistent (g_X11_isReachConsistent (g_X11_isReachConsistent x 0) 21) 42) 63) (((g_X11_isReachConsistent (g_X11_isReachConsistent (g_X11_isReachConsistent (g_X11_isReachConsistent x 0) 21) 42) 63).1 0).2.1 0)).1 0).2.1 3)) (g_X11_isReachConsistent (g_X11_isReachConsistent (g_X11_isReachConsistent (g_X11_isReachConsistent (g_X11_isReachConsistent x 0) 21) 42) 63) (((g_X11_isReachConsistent (g_X11_isReachConsistent (g_X11_isReachConsistent (g_X11_isReachConsistent x 0) 21) 42) 63).1 0).2.1 0)) 0).1 ) ) from b79)) (if_pos (show (f_X11_coins (g_X11_mostHearingsByChains (g_X11_mostHearings (asL (((g_X11_isReachConsistent (g_X11_isReachConsistent (g_X11_isReachConsistent (g_X11_isReachConsistent (g_X11_isReachConsistent x 0) 21) 42) 63) (((g_X11_isReachConsistent (g_X11_isReachConsistent (g_X11_isReachConsistent (g_X11_isReachConsistent x 0) 21) 42) 63).1 0).2.1 0)).1 0).2.1 3) (Int32.toNatClampNeg (((g_X11_isReachConsistent (g_X11_isReachConsistent (g_X11_isReachConsistent (g_X11_isReachConsistent (g_X11_isReachConsistent x 0) 21) 42) 63) (((g_X11_isReachConsistent (g_X11_isReachConsistent (g_X11_isReachConsistent (g_X11_isReachConsistent x 0) 21) 42) 63).1 0).2.1 0)).1 0).2.1 3)) (g_X11_isReachConsistent (g_X11_isReachConsistent (g_X11_isReachConsistent (g_X11_isReachConsistent (g_X11_isReachConsistent x 0) 21) 42) 63) (((g_X11_isReachConsistent (g_X11_isReachConsistent (g_X11_isReachConsistent (g_X11_isReachConsistent x 0) 21) 42) 63).1 0).2.1 0)) 0).1 ) ) ) = (f_X11_coinsByAccounts (g_X11_mostHearingsByChains (g_X11_mostHearings (asL (((g_X11_isReachConsistent (g_X11_isReachConsistent (g_X11_isReachConsistent (g_X11_isReachConsistent (g_X11_isReachConsistent x 0) 21) 42) 63) (((g_X11_isReachConsistent (g_X11_isReachConsistent (g_X11_isReachConsistent (g_X11_isReachConsistent x 0) 21) 42) 63).1 0).2.1 0)).1 0).2.1 3) (Int32.toNatClampNeg (((g_X11_isReachConsistent (g_X11_isReachConsistent (g_X11_isReachConsistent (g_X11_isReachConsistent (g_X11_isReachConsistent x 0) 21) 42) 63) (((g_X11_isReachConsistent (g_X11_isReachConsistent (g_X11_isReachConsistent (g_X11_isReachConsistent x 0) 21) 42) 63).1 0).2.1 0)).1 0).2.1 3)) (g_X11_isReachConsistent (g_X11_isReachConsistent (g_X11_isReachConsistent (g_X11_isReachConsistent (g_X11_isReachConsistent x 0) 21) 42) 63) (((g_X11_isReachConsistent (g_X11_isReachConsistent (g_X11_isReachConsistent (g_X11_isReachConsistent x 0) 21) 42) 63).1 0).2.1 0)) 0).1 ) ) ) from b90)))))))))))) (congrArg (fun z => kTp (kHc z) r) (Eq.symm (Eq.trans (if_pos (show (lg_cmp (f_X11_turnedTrees x ) (f_X11_turnedTreesByCells x )) = 0 from b9)) (Eq.trans (if_neg (show ¬ ((f_X11_isReachConsistent x 0) = 0) from b17)) (Eq.trans (if_neg (show ¬ ((f_X11_isReachConsistent (g_X11_isReachConsistent x 0) 21) = 0) from b26)) (Eq.trans (if_neg (show ¬ ((f_X11_isReachConsistent (g_X11_isReachConsistent (g_X11_isReachConsistent x 0) 21) 42) = 0) from b35)) (Eq.trans (if_neg (show ¬ ((f_X11_isReachConsistent (g_X11_isReachConsistent (g_X11_isReachConsistent (g_X11_isReachConsistent x 0) 21) 42) 63) = 0) from b44)) (Eq.trans (if_neg (show ¬ ((f_X11_isReachConsistent (g_X11_isReachConsistent (g_X11_isReachConsistent (g_X11_isReachConsistent (g_X11_isReachConsistent x 0) 21) 42) 63) (((g_X11_isReachConsistent (g_X11_isReachConsistent (g_X11_isReachConsistent (g_X11_isReachConsistent x 0) 21) 42) 63).1 0).2.1 0)) = 0) from b61)) (Eq.trans (if_neg (show ¬ ((asL (((g_X11_isReachConsistent (g_X11_isReachConsistent (g_X11_isReachConsistent (g_X11_isReachConsistent (g_X11_isReachConsistent x 0) 21) 42) 63) (((g_X11_isReachConsistent (g_X11_isReachConsistent (g_X11_isReachConsistent (g_X11_isReachConsistent x 0) 21) 42) 63).1 0).2.1 0)).1 0).2.1 3) (Int32.toNatClampNeg (((g_X11_isReachConsistent (g_X11_isReachConsistent (g_X11_isReachConsistent (g_X11_isReachConsistent (g_X11_isReachConsistent x 0) 21) 42) 63) (((g_X11_isReachConsistent (g_X11_isReachConsistent (g_X11_isReachConsistent (g_X11_isReachConsistent x 0) 21) 42) 63).1 0).2.1 0)).1 0).2.1 3)) (g_X11_isReachConsistent (g_X11_isReachConsistent (g_X11_isReachConsistent (g_X11_isReachConsistent (g_X11_isReachConsistent x 0) 21) 42) 63) (((g_X11_isReachConsistent (g_X11_isReachConsistent (g_X11_isReachConsistent (g_X11_isReachConsistent x 0) 21) 42) 63).1 0).2.1 0)) 0).2 = 0) from b68)) (Eq.trans (if_pos (show (f_X11_mostHearings (asL (((g_X11_isReachConsistent (g_X11_isReachConsistent (g_X11_isReachConsistent (g_X11_isReachConsistent (g_X11_isReachConsistent x 0) 21) 42) 63) (((g_X11_isReachConsistent (g_X11_isReachConsistent (g_X11_isReachConsistent (g_X11_isReachConsistent x 0) 21) 42) 63).1 0).2.1 0)).1 0).2.1 3) (Int32.toNatClampNeg (((g_X11_isReachConsistent (g_X11_isReachConsistent (g_X11_isReachConsistent (g_X11_isReachConsistent (g_X11_isReachConsistent x 0) 21) 42) 63) (((g_X11_isReachConsistent (g_X11_isReachConsistent (g_X11_isReachConsistent (g_X11_isReachConsistent x 0) 21) 42) 63).1 0).2.1 0)).1 0).2.1 3)) (g_X11_isReachConsistent (g_X11_isReachConsistent (g_X11_isReachConsistent (g_X11_isReachConsistent (g_X11_isReachConsistent x 0) 21) 42) 63) (((g_X11_isReachConsistent (g_X11_isReachConsistent (g_X11_isReachConsistent (g_X11_isReachConsistent x 0) 21) 42) 63).1 0).2.1 0)) 0).1 ) = (f_X11_mostHearingsByChains (g_X11_mostHearings (asL (((g_X11_isReachConsistent (g_X11_isReachConsistent (g_X11_isReachConsistent (g_X11_isReachConsistent (g_X11_isReachConsistent x 0) 21) 42) 63) (((g_X11_isReachConsistent (g_X11_isReachConsistent (g_X11_isReachConsistent (g_X11_isReachConsistent x 0) 21) 42) 63).1 0).2.1 0)).1 0).2.1 3) (Int32.toNatClampNeg (((g_X11_isReachConsistent (g_X11_isReachConsistent (g_X11_isReachConsistent (g_X11_isReachConsistent (g_X11_isReachConsistent x 0) 21) 42) 63) (((g_X11_isReachConsistent (g_X11_isReachConsistent (g_X11_isReachConsistent (g_X11_isReachConsistent x 0) 21) 42) 63).1 0).2.1 0)).1 0).2.1 3)) (g_X11_isReachConsistent (g_X11_isReachConsistent (g_X11_isReachConsistent (g_X11_isReachConsistent (g_X11_isReachConsistent x 0) 21) 42) 63) (((g_X11_isReachConsistent (g_X11_isReachConsistent (g_X11_isReachConsistent (g_X11_isReachConsistent x 0) 21) 42) 63).1 0).2.1 0)) 0).1 ) ) from b79)) (if_pos (show (f_X11_coins (g_X11_mostHearingsByChains (g_X11_mostHearings (asL (((g_X11_isReachConsistent (g_X11_isReachConsistent (g_X11_isReachConsistent (g_X11_isReachConsistent (g_X11_isReachConsistent x 0) 21) 42) 63) (((g_X11_isReachConsistent (g_X11_isReachConsistent (g_X11_isReachConsistent (g_X11_isReachConsistent x 0) 21) 42) 63).1 0).2.1 0)).1 0).2.1 3) (Int32.toNatClampNeg (((g_X11_isReachConsistent (g_X11_isReachConsistent (g_X11_isReachConsistent (g_X11_isReachConsistent (g_X11_isReachConsistent x 0) 21) 42) 63) (((g_X11_isReachConsistent (g_X11_isReachConsistent (g_X11_isReachConsistent (g_X11_isReachConsistent x 0) 21) 42) 63).1 0).2.1 0)).1 0).2.1 3)) (g_X11_isReachConsistent (g_X11_isReachConsistent (g_X11_isReachConsistent (g_X11_isReachConsistent (g_X11_isReachConsistent x 0) 21) 42) 63) (((g_X11_isReachConsistent (g_X11_isReachConsistent (g_X11_isReachConsistent (g_X11_isReachConsistent x 0) 21) 42) 63).1 0).2.1 0)) 0).1 ) ) ) = (f_X11_coinsByAccounts (g_X11_mostHearingsByChains (g_X11_mostHearings (asL (((g_X11_isReachConsistent (g_X11_isReachConsistent (g_X11_isReachConsistent (g_X11_isReachConsistent (g_X11_isReachConsistent x 0) 21) 42) 63) (((g_X11_isReachConsistent (g_X11_isReachConsistent (g_X11_isReachConsistent (g_X11_isReachConsistent x 0) 21) 42) 63).1 0).2.1 0)).1 0).2.1 3) (Int32.toNatClampNeg (((g_X11_isReachConsistent (g_X11_isReachConsistent (g_X11_isReachConsistent (g_X11_isReachConsistent (g_X11_isReachConsistent x 0) 21) 42) 63) (((g_X11_isReachConsistent (g_X11_isReachConsistent (g_X11_isReachConsistent (g_X11_isReachConsistent x 0) 21) 42) 63).1 0).2.1 0)).1 0).2.1 3)) (g_X11_isReachConsistent (g_X11_isReachConsistent (g_X11_isReachConsistent (g_X11_isReachConsistent (g_X11_isReachConsistent x 0) 21) 42) 63) (((g_X11_isReachConsistent (g_X11_isReachConsistent (g_X11_isReachConsistent (g_X11_isReachConsistent x 0) 21) 42) 63).1 0).2.1 0)) 0).1 ) ) ) from b90))))))))))))
def f_X11_checkCommand_0 (x : kK) (a2 : Int32) (a3 : Int32) (a4 : Int32) : Int32 := (f_X11_checkTree x a2 a3 1)
def g_X11_checkCommand_0 (x : kK) (a2 : Int32) (a3 : Int32) (a4 : Int32) : kK := (g_X11_checkTree x a2 a3 1)
set_option maxRecDepth 100000 in
set_option maxHeartbeats 4000000 in
theorem m_X11_checkCommand_0 {x : kK} {r : kH} (iv : kIv (x.1 0)) {a2 : Int32} {a3 : Int32} {a4 : Int32} : kMet kX11_checkCommand false 0 0 [.ref 0, .ref (1010 + 0), .int a2, .int a3, .int a4] (kTp (kHc x) r) 130 (kRt (some (.int (f_X11_checkCommand_0 x a2 a3 a4))) (kTp (kHc (g_X11_checkCommand_0 x a2 a3 a4)) r) 130) := by
  refine kMet.in (by decide) rfl rfl _ rfl ?_
  refine k_gets (Cn := "BoomerangCourt$1") (n := "$SwitchMap$BoomerangCourt$Command") (d := "[I") (id9 := 1002) (by decide) (gm 1315 (by decide +kernel) (by decide +kernel)) dX11_checkCommand_0 (rfl : 0 + 3 = 3) ?_
  refine k_aload_n (i := 1) dX11_checkCommand_3 (rfl : 3 + 1 = 4) rfl rfl ?_
  refine k_callUd0 (Cx := "BoomerangCourt$Command") nm_Jx29ce0_ordinal_8abf5 rfl (gm 1317 (by decide +kernel) (by decide +kernel)) (gm 1318 (by decide +kernel) (by decide +kernel)) (gm 1320 (by decide +kernel) (by decide +kernel)) (gm 1321 (by decide +kernel) (by decide +kernel)) ⟨Nat.le_of_ble_eq_true rfl, Nat.le_of_ble_eq_true rfl⟩ (m_Jx29ce0_ordinal (k9 := 0) (by decide)) dX11_checkCommand_4 (rfl : 4 + 3 = 7) (kEn_O (k9 := 0) (by decide)) rfl ⟨Nat.le_of_ble_eq_true rfl, Nat.le_of_ble_eq_true rfl⟩ ?_
  refine k_sald (id9 := 1002) (vs := kSw) (by decide) dX11_checkCommand_7 (rfl : 7 + 1 = 8) (by first | decide | assumption) ?_
  refine k_tableIn (tgt := 64) dX11_checkCommand_8 (by decide) (by decide) rfl (by decide) ?_
  refine k_aload_n (i := 0) dX11_checkCommand_64 (rfl : 64 + 1 = 65) rfl rfl ?_
  refine k_iload_n (i := 2) dX11_checkCommand_65 (rfl : 65 + 1 = 66) rfl rfl ?_
  refine k_iload_n (i := 3) dX11_checkCommand_66 (rfl : 66 + 1 = 67) rfl rfl ?_
  refine k_iconst (v := 1) dX11_checkCommand_67 (rfl : 67 + 1 = 68) (by decide) ?_
  refine k_callVd3 cv_X11_68 ⟨Nat.le_of_ble_eq_true rfl, Nat.le_of_ble_eq_true rfl⟩ (m_X11_checkTree iv) dX11_checkCommand_68 (rfl : 68 + 3 = 71) (Nat.le_of_ble_eq_true rfl) rfl rfl rfl ⟨Nat.le_of_ble_eq_true rfl, Nat.le_of_ble_eq_true rfl⟩ ?_
  refine k_iret rfl rfl dX11_checkCommand_71 (Nat.le_of_ble_eq_true rfl) (Nat.le_of_ble_eq_true rfl) ?_
  exact kRt_of rfl rfl
def f_X11_checkCommand_1 (x : kK) (a2 : Int32) (a3 : Int32) (a4 : Int32) : Int32 := (f_X11_checkTree x a2 a3 0)
def g_X11_checkCommand_1 (x : kK) (a2 : Int32) (a3 : Int32) (a4 : Int32) : kK := (g_X11_checkTree x a2 a3 0)
set_option maxRecDepth 100000 in
set_option maxHeartbeats 4000000 in
theorem m_X11_checkCommand_1 {x : kK} {r : kH} (iv : kIv (x.1 0)) {a2 : Int32} {a3 : Int32} {a4 : Int32} : kMet kX11_checkCommand false 0 0 [.ref 0, .ref (1010 + 1), .int a2, .int a3, .int a4] (kTp (kHc x) r) 130 (kRt (some (.int (f_X11_checkCommand_1 x a2 a3 a4))) (kTp (kHc (g_X11_checkCommand_1 x a2 a3 a4)) r) 130) := by
  refine kMet.in (by decide) rfl rfl _ rfl ?_
  refine k_gets (Cn := "BoomerangCourt$1") (n := "$SwitchMap$BoomerangCourt$Command") (d := "[I") (id9 := 1002) (by decide) (gm 1315 (by decide +kernel) (by decide +kernel)) dX11_checkCommand_0 (rfl : 0 + 3 = 3) ?_
  refine k_aload_n (i := 1) dX11_checkCommand_3 (rfl : 3 + 1 = 4) rfl rfl ?_
  refine k_callUd0 (Cx := "BoomerangCourt$Command") nm_Jx29ce0_ordinal_8abf5 rfl (gm 1317 (by decide +kernel) (by decide +kernel)) (gm 1318 (by decide +kernel) (by decide +kernel)) (gm 1320 (by decide +kernel) (by decide +kernel)) (gm 1321 (by decide +kernel) (by decide +kernel)) ⟨Nat.le_of_ble_eq_true rfl, Nat.le_of_ble_eq_true rfl⟩ (m_Jx29ce0_ordinal (k9 := 1) (by decide)) dX11_checkCommand_4 (rfl : 4 + 3 = 7) (kEn_O (k9 := 1) (by decide)) rfl ⟨Nat.le_of_ble_eq_true rfl, Nat.le_of_ble_eq_true rfl⟩ ?_
  refine k_sald (id9 := 1002) (vs := kSw) (by decide) dX11_checkCommand_7 (rfl : 7 + 1 = 8) (by first | decide | assumption) ?_
  refine k_tableIn (tgt := 72) dX11_checkCommand_8 (by decide) (by decide) rfl (by decide) ?_
  refine k_aload_n (i := 0) dX11_checkCommand_72 (rfl : 72 + 1 = 73) rfl rfl ?_
  refine k_iload_n (i := 2) dX11_checkCommand_73 (rfl : 73 + 1 = 74) rfl rfl ?_
  refine k_iload_n (i := 3) dX11_checkCommand_74 (rfl : 74 + 1 = 75) rfl rfl ?_
  refine k_iconst (v := 0) dX11_checkCommand_75 (rfl : 75 + 1 = 76) (by decide) ?_
  refine k_callVd3 cv_X11_68 ⟨Nat.le_of_ble_eq_true rfl, Nat.le_of_ble_eq_true rfl⟩ (m_X11_checkTree iv) dX11_checkCommand_76 (rfl : 76 + 3 = 79) (Nat.le_of_ble_eq_true rfl) rfl rfl rfl ⟨Nat.le_of_ble_eq_true rfl, Nat.le_of_ble_eq_true rfl⟩ ?_
  refine k_iret rfl rfl dX11_checkCommand_79 (Nat.le_of_ble_eq_true rfl) (Nat.le_of_ble_eq_true rfl) ?_
  exact kRt_of rfl rfl
def f_X11_checkCommand_2 (x : kK) (a2 : Int32) (a3 : Int32) (a4 : Int32) : Int32 := (f_X11_checkBench x a2 a3)
def g_X11_checkCommand_2 (x : kK) (a2 : Int32) (a3 : Int32) (a4 : Int32) : kK := (g_X11_checkBench x a2 a3)
set_option maxRecDepth 100000 in
set_option maxHeartbeats 4000000 in
theorem m_X11_checkCommand_2 {x : kK} {r : kH} (iv : kIv (x.1 0)) {a2 : Int32} {a3 : Int32} {a4 : Int32} : kMet kX11_checkCommand false 0 0 [.ref 0, .ref (1010 + 2), .int a2, .int a3, .int a4] (kTp (kHc x) r) 130 (kRt (some (.int (f_X11_checkCommand_2 x a2 a3 a4))) (kTp (kHc (g_X11_checkCommand_2 x a2 a3 a4)) r) 130) := by
  refine kMet.in (by decide) rfl rfl _ rfl ?_
  refine k_gets (Cn := "BoomerangCourt$1") (n := "$SwitchMap$BoomerangCourt$Command") (d := "[I") (id9 := 1002) (by decide) (gm 1315 (by decide +kernel) (by decide +kernel)) dX11_checkCommand_0 (rfl : 0 + 3 = 3) ?_
  refine k_aload_n (i := 1) dX11_checkCommand_3 (rfl : 3 + 1 = 4) rfl rfl ?_
  refine k_callUd0 (Cx := "BoomerangCourt$Command") nm_Jx29ce0_ordinal_8abf5 rfl (gm 1317 (by decide +kernel) (by decide +kernel)) (gm 1318 (by decide +kernel) (by decide +kernel)) (gm 1320 (by decide +kernel) (by decide +kernel)) (gm 1321 (by decide +kernel) (by decide +kernel)) ⟨Nat.le_of_ble_eq_true rfl, Nat.le_of_ble_eq_true rfl⟩ (m_Jx29ce0_ordinal (k9 := 2) (by decide)) dX11_checkCommand_4 (rfl : 4 + 3 = 7) (kEn_O (k9 := 2) (by decide)) rfl ⟨Nat.le_of_ble_eq_true rfl, Nat.le_of_ble_eq_true rfl⟩ ?_
  refine k_sald (id9 := 1002) (vs := kSw) (by decide) dX11_checkCommand_7 (rfl : 7 + 1 = 8) (by first | decide | assumption) ?_
  refine k_tableIn (tgt := 80) dX11_checkCommand_8 (by decide) (by decide) rfl (by decide) ?_
  refine k_aload_n (i := 0) dX11_checkCommand_80 (rfl : 80 + 1 = 81) rfl rfl ?_
  refine k_iload_n (i := 2) dX11_checkCommand_81 (rfl : 81 + 1 = 82) rfl rfl ?_
  refine k_iload_n (i := 3) dX11_checkCommand_82 (rfl : 82 + 1 = 83) rfl rfl ?_
  refine k_callVd2 cv_X11_91 ⟨Nat.le_of_ble_eq_true rfl, Nat.le_of_ble_eq_true rfl⟩ (m_X11_checkBench iv) dX11_checkCommand_83 (rfl : 83 + 3 = 86) (Nat.le_of_ble_eq_true rfl) rfl rfl rfl ⟨Nat.le_of_ble_eq_true rfl, Nat.le_of_ble_eq_true rfl⟩ ?_
  refine k_iret rfl rfl dX11_checkCommand_86 (Nat.le_of_ble_eq_true rfl) (Nat.le_of_ble_eq_true rfl) ?_
  exact kRt_of rfl rfl
def f_X11_checkCommand_3 (x : kK) (a2 : Int32) (a3 : Int32) (a4 : Int32) : Int32 := (f_X11_checkNewParty x a2 a3)
def g_X11_checkCommand_3 (x : kK) (a2 : Int32) (a3 : Int32) (a4 : Int32) : kK := (g_X11_checkNewParty x a2 a3)
set_option maxRecDepth 100000 in
set_option maxHeartbeats 4000000 in
theorem m_X11_checkCommand_3 {x : kK} {r : kH} (iv : kIv (x.1 0)) {a2 : Int32} {a3 : Int32} {a4 : Int32} : kMet kX11_checkCommand false 0 0 [.ref 0, .ref (1010 + 3), .int a2, .int a3, .int a4] (kTp (kHc x) r) 130 (kRt (some (.int (f_X11_checkCommand_3 x a2 a3 a4))) (kTp (kHc (g_X11_checkCommand_3 x a2 a3 a4)) r) 130) := by
  refine kMet.in (by decide) rfl rfl _ rfl ?_
  refine k_gets (Cn := "BoomerangCourt$1") (n := "$SwitchMap$BoomerangCourt$Command") (d := "[I") (id9 := 1002) (by decide) (gm 1315 (by decide +kernel) (by decide +kernel)) dX11_checkCommand_0 (rfl : 0 + 3 = 3) ?_
  refine k_aload_n (i := 1) dX11_checkCommand_3 (rfl : 3 + 1 = 4) rfl rfl ?_
  refine k_callUd0 (Cx := "BoomerangCourt$Command") nm_Jx29ce0_ordinal_8abf5 rfl (gm 1317 (by decide +kernel) (by decide +kernel)) (gm 1318 (by decide +kernel) (by decide +kernel)) (gm 1320 (by decide +kernel) (by decide +kernel)) (gm 1321 (by decide +kernel) (by decide +kernel)) ⟨Nat.le_of_ble_eq_true rfl, Nat.le_of_ble_eq_true rfl⟩ (m_Jx29ce0_ordinal (k9 := 3) (by decide)) dX11_checkCommand_4 (rfl : 4 + 3 = 7) (kEn_O (k9 := 3) (by decide)) rfl ⟨Nat.le_of_ble_eq_true rfl, Nat.le_of_ble_eq_true rfl⟩ ?_
  refine k_sald (id9 := 1002) (vs := kSw) (by decide) dX11_checkCommand_7 (rfl : 7 + 1 = 8) (by first | decide | assumption) ?_
  refine k_tableIn (tgt := 87) dX11_checkCommand_8 (by decide) (by decide) rfl (by decide) ?_
  refine k_aload_n (i := 0) dX11_checkCommand_87 (rfl : 87 + 1 = 88) rfl rfl ?_
  refine k_iload_n (i := 2) dX11_checkCommand_88 (rfl : 88 + 1 = 89) rfl rfl ?_
  refine k_iload_n (i := 3) dX11_checkCommand_89 (rfl : 89 + 1 = 90) rfl rfl ?_
  refine k_callVd2 cv_X11_145 ⟨Nat.le_of_ble_eq_true rfl, Nat.le_of_ble_eq_true rfl⟩ (m_X11_checkNewParty iv) dX11_checkCommand_90 (rfl : 90 + 3 = 93) (Nat.le_of_ble_eq_true rfl) rfl rfl rfl ⟨Nat.le_of_ble_eq_true rfl, Nat.le_of_ble_eq_true rfl⟩ ?_
  refine k_iret rfl rfl dX11_checkCommand_93 (Nat.le_of_ble_eq_true rfl) (Nat.le_of_ble_eq_true rfl) ?_
  exact kRt_of rfl rfl
def f_X11_checkCommand_4 (x : kK) (a2 : Int32) (a3 : Int32) (a4 : Int32) : Int32 := (f_X11_checkMove x a2 a3 a4)
def g_X11_checkCommand_4 (x : kK) (a2 : Int32) (a3 : Int32) (a4 : Int32) : kK := (g_X11_checkMove x a2 a3 a4)
set_option maxRecDepth 100000 in
set_option maxHeartbeats 4000000 in
theorem m_X11_checkCommand_4 {x : kK} {r : kH} (iv : kIv (x.1 0)) {a2 : Int32} {a3 : Int32} {a4 : Int32} : kMet kX11_checkCommand false 0 0 [.ref 0, .ref (1010 + 4), .int a2, .int a3, .int a4] (kTp (kHc x) r) 130 (kRt (some (.int (f_X11_checkCommand_4 x a2 a3 a4))) (kTp (kHc (g_X11_checkCommand_4 x a2 a3 a4)) r) 130) := by
  refine kMet.in (by decide) rfl rfl _ rfl ?_
  refine k_gets (Cn := "BoomerangCourt$1") (n := "$SwitchMap$BoomerangCourt$Command") (d := "[I") (id9 := 1002) (by decide) (gm 1315 (by decide +kernel) (by decide +kernel)) dX11_checkCommand_0 (rfl : 0 + 3 = 3) ?_
  refine k_aload_n (i := 1) dX11_checkCommand_3 (rfl : 3 + 1 = 4) rfl rfl ?_
  refine k_callUd0 (Cx := "BoomerangCourt$Command") nm_Jx29ce0_ordinal_8abf5 rfl (gm 1317 (by decide +kernel) (by decide +kernel)) (gm 1318 (by decide +kernel) (by decide +kernel)) (gm 1320 (by decide +kernel) (by decide +kernel)) (gm 1321 (by decide +kernel) (by decide +kernel)) ⟨Nat.le_of_ble_eq_true rfl, Nat.le_of_ble_eq_true rfl⟩ (m_Jx29ce0_ordinal (k9 := 4) (by decide)) dX11_checkCommand_4 (rfl : 4 + 3 = 7) (kEn_O (k9 := 4) (by decide)) rfl ⟨Nat.le_of_ble_eq_true rfl, Nat.le_of_ble_eq_true rfl⟩ ?_
  refine k_sald (id9 := 1002) (vs := kSw) (by decide) dX11_checkCommand_7 (rfl : 7 + 1 = 8) (by first | decide | assumption) ?_
  refine k_tableIn (tgt := 94) dX11_checkCommand_8 (by decide) (by decide) rfl (by decide) ?_
  refine k_aload_n (i := 0) dX11_checkCommand_94 (rfl : 94 + 1 = 95) rfl rfl ?_
  refine k_iload_n (i := 2) dX11_checkCommand_95 (rfl : 95 + 1 = 96) rfl rfl ?_
  refine k_iload_n (i := 3) dX11_checkCommand_96 (rfl : 96 + 1 = 97) rfl rfl ?_
  refine k_iload (i := 4) dX11_checkCommand_97 (rfl : 97 + 2 = 99) rfl ?_
  refine k_callVd3 cv_X11_158 ⟨Nat.le_of_ble_eq_true rfl, Nat.le_of_ble_eq_true rfl⟩ (m_X11_checkMove iv) dX11_checkCommand_99 (rfl : 99 + 3 = 102) (Nat.le_of_ble_eq_true rfl) rfl rfl rfl ⟨Nat.le_of_ble_eq_true rfl, Nat.le_of_ble_eq_true rfl⟩ ?_
  refine k_iret rfl rfl dX11_checkCommand_102 (Nat.le_of_ble_eq_true rfl) (Nat.le_of_ble_eq_true rfl) ?_
  exact kRt_of rfl rfl
def f_X11_checkCommand_5 (a2 : Int32) (a3 : Int32) (a4 : Int32) : Int32 := (f_X11_checkWind a2 a3)
set_option maxRecDepth 100000 in
set_option maxHeartbeats 4000000 in
theorem m_X11_checkCommand_5 {h : kH} {N : Nat} {a2 : Int32} {a3 : Int32} {a4 : Int32} : kMet kX11_checkCommand false 0 0 [.ref 0, .ref (1010 + 5), .int a2, .int a3, .int a4] h N (kRt (some (.int (f_X11_checkCommand_5 a2 a3 a4))) h N) := by
  refine kMet.in (by decide) rfl rfl _ rfl ?_
  refine k_gets (Cn := "BoomerangCourt$1") (n := "$SwitchMap$BoomerangCourt$Command") (d := "[I") (id9 := 1002) (by decide) (gm 1315 (by decide +kernel) (by decide +kernel)) dX11_checkCommand_0 (rfl : 0 + 3 = 3) ?_
  refine k_aload_n (i := 1) dX11_checkCommand_3 (rfl : 3 + 1 = 4) rfl rfl ?_
  refine k_callUd0 (Cx := "BoomerangCourt$Command") nm_Jx29ce0_ordinal_8abf5 rfl (gm 1317 (by decide +kernel) (by decide +kernel)) (gm 1318 (by decide +kernel) (by decide +kernel)) (gm 1320 (by decide +kernel) (by decide +kernel)) (gm 1321 (by decide +kernel) (by decide +kernel)) ⟨Nat.le_of_ble_eq_true rfl, Nat.le_of_ble_eq_true rfl⟩ (m_Jx29ce0_ordinal (k9 := 5) (by decide)) dX11_checkCommand_4 (rfl : 4 + 3 = 7) (kEn_O (k9 := 5) (by decide)) rfl ⟨Nat.le_of_ble_eq_true rfl, Nat.le_of_ble_eq_true rfl⟩ ?_
  refine k_sald (id9 := 1002) (vs := kSw) (by decide) dX11_checkCommand_7 (rfl : 7 + 1 = 8) (by first | decide | assumption) ?_
  refine k_tableIn (tgt := 103) dX11_checkCommand_8 (by decide) (by decide) rfl (by decide) ?_
  refine k_aload_n (i := 0) dX11_checkCommand_103 (rfl : 103 + 1 = 104) rfl rfl ?_
  refine k_iload_n (i := 2) dX11_checkCommand_104 (rfl : 104 + 1 = 105) rfl rfl ?_
  refine k_iload_n (i := 3) dX11_checkCommand_105 (rfl : 105 + 1 = 106) rfl rfl ?_
  refine k_callVd2 cv_X11_131 ⟨Nat.le_of_ble_eq_true rfl, Nat.le_of_ble_eq_true rfl⟩ (m_X11_checkWind) dX11_checkCommand_106 (rfl : 106 + 3 = 109) (Nat.le_of_ble_eq_true rfl) rfl rfl rfl ⟨Nat.le_of_ble_eq_true rfl, Nat.le_of_ble_eq_true rfl⟩ ?_
  refine k_iret rfl rfl dX11_checkCommand_109 (Nat.le_of_ble_eq_true rfl) (Nat.le_of_ble_eq_true rfl) ?_
  exact kRt_of rfl rfl
def f_X11_checkCommand_6 (x : kK) (a2 : Int32) (a3 : Int32) (a4 : Int32) : Int32 := (f_X11_checkSummons x a2 a3)
def g_X11_checkCommand_6 (x : kK) (a2 : Int32) (a3 : Int32) (a4 : Int32) : kK := (g_X11_checkSummons x a2 a3)
set_option maxRecDepth 100000 in
set_option maxHeartbeats 4000000 in
theorem m_X11_checkCommand_6 {x : kK} {r : kH} (iv : kIv (x.1 0)) {a2 : Int32} {a3 : Int32} {a4 : Int32} : kMet kX11_checkCommand false 0 0 [.ref 0, .ref (1010 + 6), .int a2, .int a3, .int a4] (kTp (kHc x) r) 130 (kRt (some (.int (f_X11_checkCommand_6 x a2 a3 a4))) (kTp (kHc (g_X11_checkCommand_6 x a2 a3 a4)) r) 130) := by
  refine kMet.in (by decide) rfl rfl _ rfl ?_
  refine k_gets (Cn := "BoomerangCourt$1") (n := "$SwitchMap$BoomerangCourt$Command") (d := "[I") (id9 := 1002) (by decide) (gm 1315 (by decide +kernel) (by decide +kernel)) dX11_checkCommand_0 (rfl : 0 + 3 = 3) ?_
  refine k_aload_n (i := 1) dX11_checkCommand_3 (rfl : 3 + 1 = 4) rfl rfl ?_
  refine k_callUd0 (Cx := "BoomerangCourt$Command") nm_Jx29ce0_ordinal_8abf5 rfl (gm 1317 (by decide +kernel) (by decide +kernel)) (gm 1318 (by decide +kernel) (by decide +kernel)) (gm 1320 (by decide +kernel) (by decide +kernel)) (gm 1321 (by decide +kernel) (by decide +kernel)) ⟨Nat.le_of_ble_eq_true rfl, Nat.le_of_ble_eq_true rfl⟩ (m_Jx29ce0_ordinal (k9 := 6) (by decide)) dX11_checkCommand_4 (rfl : 4 + 3 = 7) (kEn_O (k9 := 6) (by decide)) rfl ⟨Nat.le_of_ble_eq_true rfl, Nat.le_of_ble_eq_true rfl⟩ ?_
  refine k_sald (id9 := 1002) (vs := kSw) (by decide) dX11_checkCommand_7 (rfl : 7 + 1 = 8) (by first | decide | assumption) ?_
  refine k_tableIn (tgt := 110) dX11_checkCommand_8 (by decide) (by decide) rfl (by decide) ?_
  refine k_aload_n (i := 0) dX11_checkCommand_110 (rfl : 110 + 1 = 111) rfl rfl ?_
  refine k_iload_n (i := 2) dX11_checkCommand_111 (rfl : 111 + 1 = 112) rfl rfl ?_
  refine k_iload_n (i := 3) dX11_checkCommand_112 (rfl : 112 + 1 = 113) rfl rfl ?_
  refine k_callVd2 cv_X11_234 ⟨Nat.le_of_ble_eq_true rfl, Nat.le_of_ble_eq_true rfl⟩ (m_X11_checkSummons iv) dX11_checkCommand_113 (rfl : 113 + 3 = 116) (Nat.le_of_ble_eq_true rfl) rfl rfl rfl ⟨Nat.le_of_ble_eq_true rfl, Nat.le_of_ble_eq_true rfl⟩ ?_
  refine k_iret rfl rfl dX11_checkCommand_116 (Nat.le_of_ble_eq_true rfl) (Nat.le_of_ble_eq_true rfl) ?_
  exact kRt_of rfl rfl
def f_X11_checkCommand_7 (x : kK) (a2 : Int32) (a3 : Int32) (a4 : Int32) : Int32 := (f_X11_checkPurchase x a2)
set_option maxRecDepth 100000 in
set_option maxHeartbeats 4000000 in
theorem m_X11_checkCommand_7 {x : kK} {r : kH} {a2 : Int32} {a3 : Int32} {a4 : Int32} : kMet kX11_checkCommand false 0 0 [.ref 0, .ref (1010 + 7), .int a2, .int a3, .int a4] (kTp (kHc x) r) 130 (kRt (some (.int (f_X11_checkCommand_7 x a2 a3 a4))) (kTp (kHc x) r) 130) := by
  refine kMet.in (by decide) rfl rfl _ rfl ?_
  refine k_gets (Cn := "BoomerangCourt$1") (n := "$SwitchMap$BoomerangCourt$Command") (d := "[I") (id9 := 1002) (by decide) (gm 1315 (by decide +kernel) (by decide +kernel)) dX11_checkCommand_0 (rfl : 0 + 3 = 3) ?_
  refine k_aload_n (i := 1) dX11_checkCommand_3 (rfl : 3 + 1 = 4) rfl rfl ?_
  refine k_callUd0 (Cx := "BoomerangCourt$Command") nm_Jx29ce0_ordinal_8abf5 rfl (gm 1317 (by decide +kernel) (by decide +kernel)) (gm 1318 (by decide +kernel) (by decide +kernel)) (gm 1320 (by decide +kernel) (by decide +kernel)) (gm 1321 (by decide +kernel) (by decide +kernel)) ⟨Nat.le_of_ble_eq_true rfl, Nat.le_of_ble_eq_true rfl⟩ (m_Jx29ce0_ordinal (k9 := 7) (by decide)) dX11_checkCommand_4 (rfl : 4 + 3 = 7) (kEn_O (k9 := 7) (by decide)) rfl ⟨Nat.le_of_ble_eq_true rfl, Nat.le_of_ble_eq_true rfl⟩ ?_
  refine k_sald (id9 := 1002) (vs := kSw) (by decide) dX11_checkCommand_7 (rfl : 7 + 1 = 8) (by first | decide | assumption) ?_
  refine k_tableIn (tgt := 117) dX11_checkCommand_8 (by decide) (by decide) rfl (by decide) ?_
  refine k_aload_n (i := 0) dX11_checkCommand_117 (rfl : 117 + 1 = 118) rfl rfl ?_
  refine k_iload_n (i := 2) dX11_checkCommand_118 (rfl : 118 + 1 = 119) rfl rfl ?_
  refine k_callVd1 cv_X11_242 ⟨Nat.le_of_ble_eq_true rfl, Nat.le_of_ble_eq_true rfl⟩ (m_X11_checkPurchase) dX11_checkCommand_119 (rfl : 119 + 3 = 122) (Nat.le_of_ble_eq_true rfl) rfl rfl rfl ⟨Nat.le_of_ble_eq_true rfl, Nat.le_of_ble_eq_true rfl⟩ ?_
  refine k_iret rfl rfl dX11_checkCommand_122 (Nat.le_of_ble_eq_true rfl) (Nat.le_of_ble_eq_true rfl) ?_
  exact kRt_of rfl rfl
def f_X11_checkCommand_8 (x : kK) (a2 : Int32) (a3 : Int32) (a4 : Int32) : Int32 := (f_X11_checkHearing x a2)
def g_X11_checkCommand_8 (x : kK) (a2 : Int32) (a3 : Int32) (a4 : Int32) : kK := (g_X11_checkHearing x a2)
set_option maxRecDepth 100000 in
set_option maxHeartbeats 4000000 in
theorem m_X11_checkCommand_8 {x : kK} {r : kH} {a2 : Int32} {a3 : Int32} {a4 : Int32} (iv : kIv (x.1 0)) : kMet kX11_checkCommand false 0 0 [.ref 0, .ref (1010 + 8), .int a2, .int a3, .int a4] (kTp (kHc x) r) 130 (kRt (some (.int (f_X11_checkCommand_8 x a2 a3 a4))) (kTp (kHc (g_X11_checkCommand_8 x a2 a3 a4)) r) 130) := by
  refine kMet.in (by decide) rfl rfl _ rfl ?_
  refine k_gets (Cn := "BoomerangCourt$1") (n := "$SwitchMap$BoomerangCourt$Command") (d := "[I") (id9 := 1002) (by decide) (gm 1315 (by decide +kernel) (by decide +kernel)) dX11_checkCommand_0 (rfl : 0 + 3 = 3) ?_
  refine k_aload_n (i := 1) dX11_checkCommand_3 (rfl : 3 + 1 = 4) rfl rfl ?_
  refine k_callUd0 (Cx := "BoomerangCourt$Command") nm_Jx29ce0_ordinal_8abf5 rfl (gm 1317 (by decide +kernel) (by decide +kernel)) (gm 1318 (by decide +kernel) (by decide +kernel)) (gm 1320 (by decide +kernel) (by decide +kernel)) (gm 1321 (by decide +kernel) (by decide +kernel)) ⟨Nat.le_of_ble_eq_true rfl, Nat.le_of_ble_eq_true rfl⟩ (m_Jx29ce0_ordinal (k9 := 8) (by decide)) dX11_checkCommand_4 (rfl : 4 + 3 = 7) (kEn_O (k9 := 8) (by decide)) rfl ⟨Nat.le_of_ble_eq_true rfl, Nat.le_of_ble_eq_true rfl⟩ ?_
  refine k_sald (id9 := 1002) (vs := kSw) (by decide) dX11_checkCommand_7 (rfl : 7 + 1 = 8) (by first | decide | assumption) ?_
  refine k_tableIn (tgt := 123) dX11_checkCommand_8 (by decide) (by decide) rfl (by decide) ?_
  refine k_aload_n (i := 0) dX11_checkCommand_123 (rfl : 123 + 1 = 124) rfl rfl ?_
  refine k_iload_n (i := 2) dX11_checkCommand_124 (rfl : 124 + 1 = 125) rfl rfl ?_
  refine k_callVd1 cv_X11_288 ⟨Nat.le_of_ble_eq_true rfl, Nat.le_of_ble_eq_true rfl⟩ (m_X11_checkHearing iv) dX11_checkCommand_125 (rfl : 125 + 3 = 128) (Nat.le_of_ble_eq_true rfl) rfl rfl rfl ⟨Nat.le_of_ble_eq_true rfl, Nat.le_of_ble_eq_true rfl⟩ ?_
  refine k_iret rfl rfl dX11_checkCommand_128 (Nat.le_of_ble_eq_true rfl) (Nat.le_of_ble_eq_true rfl) ?_
  exact kRt_of rfl rfl
def f_X11_checkCommand_9 (a2 : Int32) (a3 : Int32) (a4 : Int32) : Int32 := (f_X11_checkPassing a2)
set_option maxRecDepth 100000 in
set_option maxHeartbeats 4000000 in
theorem m_X11_checkCommand_9 {h : kH} {N : Nat} {a2 : Int32} {a3 : Int32} {a4 : Int32} : kMet kX11_checkCommand false 0 0 [.ref 0, .ref (1010 + 9), .int a2, .int a3, .int a4] h N (kRt (some (.int (f_X11_checkCommand_9 a2 a3 a4))) h N) := by
  refine kMet.in (by decide) rfl rfl _ rfl ?_
  refine k_gets (Cn := "BoomerangCourt$1") (n := "$SwitchMap$BoomerangCourt$Command") (d := "[I") (id9 := 1002) (by decide) (gm 1315 (by decide +kernel) (by decide +kernel)) dX11_checkCommand_0 (rfl : 0 + 3 = 3) ?_
  refine k_aload_n (i := 1) dX11_checkCommand_3 (rfl : 3 + 1 = 4) rfl rfl ?_
  refine k_callUd0 (Cx := "BoomerangCourt$Command") nm_Jx29ce0_ordinal_8abf5 rfl (gm 1317 (by decide +kernel) (by decide +kernel)) (gm 1318 (by decide +kernel) (by decide +kernel)) (gm 1320 (by decide +kernel) (by decide +kernel)) (gm 1321 (by decide +kernel) (by decide +kernel)) ⟨Nat.le_of_ble_eq_true rfl, Nat.le_of_ble_eq_true rfl⟩ (m_Jx29ce0_ordinal (k9 := 9) (by decide)) dX11_checkCommand_4 (rfl : 4 + 3 = 7) (kEn_O (k9 := 9) (by decide)) rfl ⟨Nat.le_of_ble_eq_true rfl, Nat.le_of_ble_eq_true rfl⟩ ?_
  refine k_sald (id9 := 1002) (vs := kSw) (by decide) dX11_checkCommand_7 (rfl : 7 + 1 = 8) (by first | decide | assumption) ?_
  refine k_tableIn (tgt := 129) dX11_checkCommand_8 (by decide) (by decide) rfl (by decide) ?_
  refine k_aload_n (i := 0) dX11_checkCommand_129 (rfl : 129 + 1 = 130) rfl rfl ?_
  refine k_iload_n (i := 2) dX11_checkCommand_130 (rfl : 130 + 1 = 131) rfl rfl ?_
  refine k_callVd1 cv_X11_303 ⟨Nat.le_of_ble_eq_true rfl, Nat.le_of_ble_eq_true rfl⟩ (m_X11_checkPassing) dX11_checkCommand_131 (rfl : 131 + 3 = 134) (Nat.le_of_ble_eq_true rfl) rfl rfl rfl ⟨Nat.le_of_ble_eq_true rfl, Nat.le_of_ble_eq_true rfl⟩ ?_
  refine k_iret rfl rfl dX11_checkCommand_134 (Nat.le_of_ble_eq_true rfl) (Nat.le_of_ble_eq_true rfl) ?_
  exact kRt_of rfl rfl
def g_X11_carryOut_0 (x : kK) (a2 : Int32) (a3 : Int32) (a4 : Int32) : kK := (g_X11_plant x a2 a3 1)
set_option maxRecDepth 100000 in
set_option maxHeartbeats 4000000 in
theorem m_X11_carryOut_0 {x : kK} {r : kH} {a2 : Int32} {a3 : Int32} {a4 : Int32} : kMet kX11_carryOut false 0 0 [.ref 0, .ref (1010 + 0), .int a2, .int a3, .int a4] (kTp (kHc x) r) 130 (kRt (none) (kTp (kHc (g_X11_carryOut_0 x a2 a3 a4)) r) 130) := by
  refine kMet.in (by decide) rfl rfl _ rfl ?_
  refine k_gets (Cn := "BoomerangCourt$1") (n := "$SwitchMap$BoomerangCourt$Command") (d := "[I") (id9 := 1002) (by decide) (gm 1315 (by decide +kernel) (by decide +kernel)) dX11_carryOut_0 (rfl : 0 + 3 = 3) ?_
  refine k_aload_n (i := 1) dX11_carryOut_3 (rfl : 3 + 1 = 4) rfl rfl ?_
  refine k_callUd0 (Cx := "BoomerangCourt$Command") nm_Jx29ce0_ordinal_8abf5 rfl (gm 1317 (by decide +kernel) (by decide +kernel)) (gm 1318 (by decide +kernel) (by decide +kernel)) (gm 1320 (by decide +kernel) (by decide +kernel)) (gm 1321 (by decide +kernel) (by decide +kernel)) ⟨Nat.le_of_ble_eq_true rfl, Nat.le_of_ble_eq_true rfl⟩ (m_Jx29ce0_ordinal (k9 := 0) (by decide)) dX11_carryOut_4 (rfl : 4 + 3 = 7) (kEn_O (k9 := 0) (by decide)) rfl ⟨Nat.le_of_ble_eq_true rfl, Nat.le_of_ble_eq_true rfl⟩ ?_
  refine k_sald (id9 := 1002) (vs := kSw) (by decide) dX11_carryOut_7 (rfl : 7 + 1 = 8) (by first | decide | assumption) ?_
  refine k_tableIn (tgt := 64) dX11_carryOut_8 (by decide) (by decide) rfl (by decide) ?_
  refine k_aload_n (i := 0) dX11_carryOut_64 (rfl : 64 + 1 = 65) rfl rfl ?_
  refine k_iload_n (i := 2) dX11_carryOut_65 (rfl : 65 + 1 = 66) rfl rfl ?_
  refine k_iload_n (i := 3) dX11_carryOut_66 (rfl : 66 + 1 = 67) rfl rfl ?_
  refine k_iconst (v := 1) dX11_carryOut_67 (rfl : 67 + 1 = 68) (by decide) ?_
  refine k_callVd3 cv_X11_88 ⟨Nat.le_of_ble_eq_true rfl, Nat.le_of_ble_eq_true rfl⟩ (m_X11_plant) dX11_carryOut_68 (rfl : 68 + 3 = 71) (Nat.le_of_ble_eq_true rfl) rfl rfl rfl ⟨Nat.le_of_ble_eq_true rfl, Nat.le_of_ble_eq_true rfl⟩ ?_
  refine k_pop dX11_carryOut_71 (rfl : 71 + 1 = 72) rfl ?_
  refine k_goto (tgt := 165) dX11_carryOut_72 (by decide) ?_
  refine k_vret rfl dX11_carryOut_165 (Nat.le_of_ble_eq_true rfl) (Nat.le_of_ble_eq_true rfl) ?_
  exact kRt_of rfl rfl
def g_X11_carryOut_1 (x : kK) (a2 : Int32) (a3 : Int32) (a4 : Int32) : kK := (g_X11_plant x a2 a3 0)
set_option maxRecDepth 100000 in
set_option maxHeartbeats 4000000 in
theorem m_X11_carryOut_1 {x : kK} {r : kH} {a2 : Int32} {a3 : Int32} {a4 : Int32} : kMet kX11_carryOut false 0 0 [.ref 0, .ref (1010 + 1), .int a2, .int a3, .int a4] (kTp (kHc x) r) 130 (kRt (none) (kTp (kHc (g_X11_carryOut_1 x a2 a3 a4)) r) 130) := by
  refine kMet.in (by decide) rfl rfl _ rfl ?_
  refine k_gets (Cn := "BoomerangCourt$1") (n := "$SwitchMap$BoomerangCourt$Command") (d := "[I") (id9 := 1002) (by decide) (gm 1315 (by decide +kernel) (by decide +kernel)) dX11_carryOut_0 (rfl : 0 + 3 = 3) ?_
  refine k_aload_n (i := 1) dX11_carryOut_3 (rfl : 3 + 1 = 4) rfl rfl ?_
  refine k_callUd0 (Cx := "BoomerangCourt$Command") nm_Jx29ce0_ordinal_8abf5 rfl (gm 1317 (by decide +kernel) (by decide +kernel)) (gm 1318 (by decide +kernel) (by decide +kernel)) (gm 1320 (by decide +kernel) (by decide +kernel)) (gm 1321 (by decide +kernel) (by decide +kernel)) ⟨Nat.le_of_ble_eq_true rfl, Nat.le_of_ble_eq_true rfl⟩ (m_Jx29ce0_ordinal (k9 := 1) (by decide)) dX11_carryOut_4 (rfl : 4 + 3 = 7) (kEn_O (k9 := 1) (by decide)) rfl ⟨Nat.le_of_ble_eq_true rfl, Nat.le_of_ble_eq_true rfl⟩ ?_
  refine k_sald (id9 := 1002) (vs := kSw) (by decide) dX11_carryOut_7 (rfl : 7 + 1 = 8) (by first | decide | assumption) ?_
  refine k_tableIn (tgt := 75) dX11_carryOut_8 (by decide) (by decide) rfl (by decide) ?_
  refine k_aload_n (i := 0) dX11_carryOut_75 (rfl : 75 + 1 = 76) rfl rfl ?_
  refine k_iload_n (i := 2) dX11_carryOut_76 (rfl : 76 + 1 = 77) rfl rfl ?_
  refine k_iload_n (i := 3) dX11_carryOut_77 (rfl : 77 + 1 = 78) rfl rfl ?_
  refine k_iconst (v := 0) dX11_carryOut_78 (rfl : 78 + 1 = 79) (by decide) ?_
  refine k_callVd3 cv_X11_88 ⟨Nat.le_of_ble_eq_true rfl, Nat.le_of_ble_eq_true rfl⟩ (m_X11_plant) dX11_carryOut_79 (rfl : 79 + 3 = 82) (Nat.le_of_ble_eq_true rfl) rfl rfl rfl ⟨Nat.le_of_ble_eq_true rfl, Nat.le_of_ble_eq_true rfl⟩ ?_
  refine k_pop dX11_carryOut_82 (rfl : 82 + 1 = 83) rfl ?_
  refine k_goto (tgt := 165) dX11_carryOut_83 (by decide) ?_
  refine k_vret rfl dX11_carryOut_165 (Nat.le_of_ble_eq_true rfl) (Nat.le_of_ble_eq_true rfl) ?_
  exact kRt_of rfl rfl
def g_X11_carryOut_2 (x : kK) (a2 : Int32) (a3 : Int32) (a4 : Int32) : kK := (g_X11_placeBench x a2 a3)
set_option maxRecDepth 100000 in
set_option maxHeartbeats 4000000 in
theorem m_X11_carryOut_2 {x : kK} {r : kH} {a2 : Int32} {a3 : Int32} {a4 : Int32} : kMet kX11_carryOut false 0 0 [.ref 0, .ref (1010 + 2), .int a2, .int a3, .int a4] (kTp (kHc x) r) 130 (kRt (none) (kTp (kHc (g_X11_carryOut_2 x a2 a3 a4)) r) 130) := by
  refine kMet.in (by decide) rfl rfl _ rfl ?_
  refine k_gets (Cn := "BoomerangCourt$1") (n := "$SwitchMap$BoomerangCourt$Command") (d := "[I") (id9 := 1002) (by decide) (gm 1315 (by decide +kernel) (by decide +kernel)) dX11_carryOut_0 (rfl : 0 + 3 = 3) ?_
  refine k_aload_n (i := 1) dX11_carryOut_3 (rfl : 3 + 1 = 4) rfl rfl ?_
  refine k_callUd0 (Cx := "BoomerangCourt$Command") nm_Jx29ce0_ordinal_8abf5 rfl (gm 1317 (by decide +kernel) (by decide +kernel)) (gm 1318 (by decide +kernel) (by decide +kernel)) (gm 1320 (by decide +kernel) (by decide +kernel)) (gm 1321 (by decide +kernel) (by decide +kernel)) ⟨Nat.le_of_ble_eq_true rfl, Nat.le_of_ble_eq_true rfl⟩ (m_Jx29ce0_ordinal (k9 := 2) (by decide)) dX11_carryOut_4 (rfl : 4 + 3 = 7) (kEn_O (k9 := 2) (by decide)) rfl ⟨Nat.le_of_ble_eq_true rfl, Nat.le_of_ble_eq_true rfl⟩ ?_
  refine k_sald (id9 := 1002) (vs := kSw) (by decide) dX11_carryOut_7 (rfl : 7 + 1 = 8) (by first | decide | assumption) ?_
  refine k_tableIn (tgt := 86) dX11_carryOut_8 (by decide) (by decide) rfl (by decide) ?_
  refine k_aload_n (i := 0) dX11_carryOut_86 (rfl : 86 + 1 = 87) rfl rfl ?_
  refine k_iload_n (i := 2) dX11_carryOut_87 (rfl : 87 + 1 = 88) rfl rfl ?_
  refine k_iload_n (i := 3) dX11_carryOut_88 (rfl : 88 + 1 = 89) rfl rfl ?_
  refine k_callVd2 cv_X11_97 ⟨Nat.le_of_ble_eq_true rfl, Nat.le_of_ble_eq_true rfl⟩ (m_X11_placeBench) dX11_carryOut_89 (rfl : 89 + 3 = 92) (Nat.le_of_ble_eq_true rfl) rfl rfl rfl ⟨Nat.le_of_ble_eq_true rfl, Nat.le_of_ble_eq_true rfl⟩ ?_
  refine k_pop dX11_carryOut_92 (rfl : 92 + 1 = 93) rfl ?_
  refine k_goto (tgt := 165) dX11_carryOut_93 (by decide) ?_
  refine k_vret rfl dX11_carryOut_165 (Nat.le_of_ble_eq_true rfl) (Nat.le_of_ble_eq_true rfl) ?_
  exact kRt_of rfl rfl
def g_X11_carryOut_3 (x : kK) (a2 : Int32) (a3 : Int32) (a4 : Int32) : kK := (g_X11_seatParty x a2 a3)
set_option maxRecDepth 100000 in
set_option maxHeartbeats 4000000 in
theorem m_X11_carryOut_3 {x : kK} {r : kH} {a2 : Int32} {a3 : Int32} {a4 : Int32} (iv : kIv (x.1 0)) : kMet kX11_carryOut false 0 0 [.ref 0, .ref (1010 + 3), .int a2, .int a3, .int a4] (kTp (kHc x) r) 130 (kRt (none) (kTp (kHc (g_X11_carryOut_3 x a2 a3 a4)) r) 130) := by
  refine kMet.in (by decide) rfl rfl _ rfl ?_
  refine k_gets (Cn := "BoomerangCourt$1") (n := "$SwitchMap$BoomerangCourt$Command") (d := "[I") (id9 := 1002) (by decide) (gm 1315 (by decide +kernel) (by decide +kernel)) dX11_carryOut_0 (rfl : 0 + 3 = 3) ?_
  refine k_aload_n (i := 1) dX11_carryOut_3 (rfl : 3 + 1 = 4) rfl rfl ?_
  refine k_callUd0 (Cx := "BoomerangCourt$Command") nm_Jx29ce0_ordinal_8abf5 rfl (gm 1317 (by decide +kernel) (by decide +kernel)) (gm 1318 (by decide +kernel) (by decide +kernel)) (gm 1320 (by decide +kernel) (by decide +kernel)) (gm 1321 (by decide +kernel) (by decide +kernel)) ⟨Nat.le_of_ble_eq_true rfl, Nat.le_of_ble_eq_true rfl⟩ (m_Jx29ce0_ordinal (k9 := 3) (by decide)) dX11_carryOut_4 (rfl : 4 + 3 = 7) (kEn_O (k9 := 3) (by decide)) rfl ⟨Nat.le_of_ble_eq_true rfl, Nat.le_of_ble_eq_true rfl⟩ ?_
  refine k_sald (id9 := 1002) (vs := kSw) (by decide) dX11_carryOut_7 (rfl : 7 + 1 = 8) (by first | decide | assumption) ?_
  refine k_tableIn (tgt := 96) dX11_carryOut_8 (by decide) (by decide) rfl (by decide) ?_
  refine k_aload_n (i := 0) dX11_carryOut_96 (rfl : 96 + 1 = 97) rfl rfl ?_
  refine k_iload_n (i := 2) dX11_carryOut_97 (rfl : 97 + 1 = 98) rfl rfl ?_
  refine k_iload_n (i := 3) dX11_carryOut_98 (rfl : 98 + 1 = 99) rfl rfl ?_
  refine k_callVd2 cv_X11_155 ⟨Nat.le_of_ble_eq_true rfl, Nat.le_of_ble_eq_true rfl⟩ (m_X11_seatParty iv) dX11_carryOut_99 (rfl : 99 + 3 = 102) (Nat.le_of_ble_eq_true rfl) rfl rfl rfl ⟨Nat.le_of_ble_eq_true rfl, Nat.le_of_ble_eq_true rfl⟩ ?_
  refine k_pop dX11_carryOut_102 (rfl : 102 + 1 = 103) rfl ?_
  refine k_goto (tgt := 165) dX11_carryOut_103 (by decide) ?_
  refine k_vret rfl dX11_carryOut_165 (Nat.le_of_ble_eq_true rfl) (Nat.le_of_ble_eq_true rfl) ?_
  exact kRt_of rfl rfl
def g_X11_carryOut_4 (x : kK) (a2 : Int32) (a3 : Int32) (a4 : Int32) : kK := (g_X11_shiftParty x a2 a3 a4)
set_option maxRecDepth 100000 in
set_option maxHeartbeats 4000000 in
theorem m_X11_carryOut_4 {x : kK} {r : kH} {a2 : Int32} {a3 : Int32} {a4 : Int32} (h8 : vp_in a2 8) : kMet kX11_carryOut false 0 0 [.ref 0, .ref (1010 + 4), .int a2, .int a3, .int a4] (kTp (kHc x) r) 130 (kRt (none) (kTp (kHc (g_X11_carryOut_4 x a2 a3 a4)) r) 130) := by
  refine kMet.in (by decide) rfl rfl _ rfl ?_
  refine k_gets (Cn := "BoomerangCourt$1") (n := "$SwitchMap$BoomerangCourt$Command") (d := "[I") (id9 := 1002) (by decide) (gm 1315 (by decide +kernel) (by decide +kernel)) dX11_carryOut_0 (rfl : 0 + 3 = 3) ?_
  refine k_aload_n (i := 1) dX11_carryOut_3 (rfl : 3 + 1 = 4) rfl rfl ?_
  refine k_callUd0 (Cx := "BoomerangCourt$Command") nm_Jx29ce0_ordinal_8abf5 rfl (gm 1317 (by decide +kernel) (by decide +kernel)) (gm 1318 (by decide +kernel) (by decide +kernel)) (gm 1320 (by decide +kernel) (by decide +kernel)) (gm 1321 (by decide +kernel) (by decide +kernel)) ⟨Nat.le_of_ble_eq_true rfl, Nat.le_of_ble_eq_true rfl⟩ (m_Jx29ce0_ordinal (k9 := 4) (by decide)) dX11_carryOut_4 (rfl : 4 + 3 = 7) (kEn_O (k9 := 4) (by decide)) rfl ⟨Nat.le_of_ble_eq_true rfl, Nat.le_of_ble_eq_true rfl⟩ ?_
  refine k_sald (id9 := 1002) (vs := kSw) (by decide) dX11_carryOut_7 (rfl : 7 + 1 = 8) (by first | decide | assumption) ?_
  refine k_tableIn (tgt := 106) dX11_carryOut_8 (by decide) (by decide) rfl (by decide) ?_
  refine k_aload_n (i := 0) dX11_carryOut_106 (rfl : 106 + 1 = 107) rfl rfl ?_
  refine k_iload_n (i := 2) dX11_carryOut_107 (rfl : 107 + 1 = 108) rfl rfl ?_
  refine k_iload_n (i := 3) dX11_carryOut_108 (rfl : 108 + 1 = 109) rfl rfl ?_
  refine k_iload (i := 4) dX11_carryOut_109 (rfl : 109 + 2 = 111) rfl ?_
  refine k_callVd3 cv_X11_166 ⟨Nat.le_of_ble_eq_true rfl, Nat.le_of_ble_eq_true rfl⟩ (m_X11_shiftParty h8) dX11_carryOut_111 (rfl : 111 + 3 = 114) (Nat.le_of_ble_eq_true rfl) rfl rfl rfl ⟨Nat.le_of_ble_eq_true rfl, Nat.le_of_ble_eq_true rfl⟩ ?_
  refine k_pop dX11_carryOut_114 (rfl : 114 + 1 = 115) rfl ?_
  refine k_goto (tgt := 165) dX11_carryOut_115 (by decide) ?_
  refine k_vret rfl dX11_carryOut_165 (Nat.le_of_ble_eq_true rfl) (Nat.le_of_ble_eq_true rfl) ?_
  exact kRt_of rfl rfl
def g_X11_carryOut_5 (x : kK) (a2 : Int32) (a3 : Int32) (a4 : Int32) : kK := (g_X11_turnWind x a2 a3)
set_option maxRecDepth 100000 in
set_option maxHeartbeats 4000000 in
theorem m_X11_carryOut_5 {x : kK} {r : kH} {a2 : Int32} {a3 : Int32} {a4 : Int32} : kMet kX11_carryOut false 0 0 [.ref 0, .ref (1010 + 5), .int a2, .int a3, .int a4] (kTp (kHc x) r) 130 (kRt (none) (kTp (kHc (g_X11_carryOut_5 x a2 a3 a4)) r) 130) := by
  refine kMet.in (by decide) rfl rfl _ rfl ?_
  refine k_gets (Cn := "BoomerangCourt$1") (n := "$SwitchMap$BoomerangCourt$Command") (d := "[I") (id9 := 1002) (by decide) (gm 1315 (by decide +kernel) (by decide +kernel)) dX11_carryOut_0 (rfl : 0 + 3 = 3) ?_
  refine k_aload_n (i := 1) dX11_carryOut_3 (rfl : 3 + 1 = 4) rfl rfl ?_
  refine k_callUd0 (Cx := "BoomerangCourt$Command") nm_Jx29ce0_ordinal_8abf5 rfl (gm 1317 (by decide +kernel) (by decide +kernel)) (gm 1318 (by decide +kernel) (by decide +kernel)) (gm 1320 (by decide +kernel) (by decide +kernel)) (gm 1321 (by decide +kernel) (by decide +kernel)) ⟨Nat.le_of_ble_eq_true rfl, Nat.le_of_ble_eq_true rfl⟩ (m_Jx29ce0_ordinal (k9 := 5) (by decide)) dX11_carryOut_4 (rfl : 4 + 3 = 7) (kEn_O (k9 := 5) (by decide)) rfl ⟨Nat.le_of_ble_eq_true rfl, Nat.le_of_ble_eq_true rfl⟩ ?_
  refine k_sald (id9 := 1002) (vs := kSw) (by decide) dX11_carryOut_7 (rfl : 7 + 1 = 8) (by first | decide | assumption) ?_
  refine k_tableIn (tgt := 118) dX11_carryOut_8 (by decide) (by decide) rfl (by decide) ?_
  refine k_aload_n (i := 0) dX11_carryOut_118 (rfl : 118 + 1 = 119) rfl rfl ?_
  refine k_iload_n (i := 2) dX11_carryOut_119 (rfl : 119 + 1 = 120) rfl rfl ?_
  refine k_iload_n (i := 3) dX11_carryOut_120 (rfl : 120 + 1 = 121) rfl rfl ?_
  refine k_callVd2 cv_X11_139 ⟨Nat.le_of_ble_eq_true rfl, Nat.le_of_ble_eq_true rfl⟩ (m_X11_turnWind) dX11_carryOut_121 (rfl : 121 + 3 = 124) (Nat.le_of_ble_eq_true rfl) rfl rfl rfl ⟨Nat.le_of_ble_eq_true rfl, Nat.le_of_ble_eq_true rfl⟩ ?_
  refine k_pop dX11_carryOut_124 (rfl : 124 + 1 = 125) rfl ?_
  refine k_goto (tgt := 165) dX11_carryOut_125 (by decide) ?_
  refine k_vret rfl dX11_carryOut_165 (Nat.le_of_ble_eq_true rfl) (Nat.le_of_ble_eq_true rfl) ?_
  exact kRt_of rfl rfl
def g_X11_carryOut_6 (x : kK) (a2 : Int32) (a3 : Int32) (a4 : Int32) : kK := (g_X11_throwAt x a2 a3)
set_option maxRecDepth 100000 in
set_option maxHeartbeats 4000000 in
theorem m_X11_carryOut_6 {x : kK} {r : kH} {a2 : Int32} {a3 : Int32} {a4 : Int32} (iv : kIv (x.1 0)) (ht : ¬ f_X11_isThrow a3 = 0) (h8 : vp_in a2 8) : kMet kX11_carryOut false 0 0 [.ref 0, .ref (1010 + 6), .int a2, .int a3, .int a4] (kTp (kHc x) r) 130 (kRt (none) (kTp (kHc (g_X11_carryOut_6 x a2 a3 a4)) r) 130) := by
  refine kMet.in (by decide) rfl rfl _ rfl ?_
  refine k_gets (Cn := "BoomerangCourt$1") (n := "$SwitchMap$BoomerangCourt$Command") (d := "[I") (id9 := 1002) (by decide) (gm 1315 (by decide +kernel) (by decide +kernel)) dX11_carryOut_0 (rfl : 0 + 3 = 3) ?_
  refine k_aload_n (i := 1) dX11_carryOut_3 (rfl : 3 + 1 = 4) rfl rfl ?_
  refine k_callUd0 (Cx := "BoomerangCourt$Command") nm_Jx29ce0_ordinal_8abf5 rfl (gm 1317 (by decide +kernel) (by decide +kernel)) (gm 1318 (by decide +kernel) (by decide +kernel)) (gm 1320 (by decide +kernel) (by decide +kernel)) (gm 1321 (by decide +kernel) (by decide +kernel)) ⟨Nat.le_of_ble_eq_true rfl, Nat.le_of_ble_eq_true rfl⟩ (m_Jx29ce0_ordinal (k9 := 6) (by decide)) dX11_carryOut_4 (rfl : 4 + 3 = 7) (kEn_O (k9 := 6) (by decide)) rfl ⟨Nat.le_of_ble_eq_true rfl, Nat.le_of_ble_eq_true rfl⟩ ?_
  refine k_sald (id9 := 1002) (vs := kSw) (by decide) dX11_carryOut_7 (rfl : 7 + 1 = 8) (by first | decide | assumption) ?_
  refine k_tableIn (tgt := 128) dX11_carryOut_8 (by decide) (by decide) rfl (by decide) ?_
  refine k_aload_n (i := 0) dX11_carryOut_128 (rfl : 128 + 1 = 129) rfl rfl ?_
  refine k_iload_n (i := 2) dX11_carryOut_129 (rfl : 129 + 1 = 130) rfl rfl ?_
  refine k_iload_n (i := 3) dX11_carryOut_130 (rfl : 130 + 1 = 131) rfl rfl ?_
  refine k_callVd2 cv_X11_239 ⟨Nat.le_of_ble_eq_true rfl, Nat.le_of_ble_eq_true rfl⟩ (m_X11_throwAt iv ht h8) dX11_carryOut_131 (rfl : 131 + 3 = 134) (Nat.le_of_ble_eq_true rfl) rfl rfl rfl ⟨Nat.le_of_ble_eq_true rfl, Nat.le_of_ble_eq_true rfl⟩ ?_
  refine k_pop dX11_carryOut_134 (rfl : 134 + 1 = 135) rfl ?_
  refine k_goto (tgt := 165) dX11_carryOut_135 (by decide) ?_
  refine k_vret rfl dX11_carryOut_165 (Nat.le_of_ble_eq_true rfl) (Nat.le_of_ble_eq_true rfl) ?_
  exact kRt_of rfl rfl
def g_X11_carryOut_7 (x : kK) (a2 : Int32) (a3 : Int32) (a4 : Int32) : kK := (g_X11_purchase x a2)
set_option maxRecDepth 100000 in
set_option maxHeartbeats 4000000 in
theorem m_X11_carryOut_7 {x : kK} {r : kH} {a2 : Int32} {a3 : Int32} {a4 : Int32} : kMet kX11_carryOut false 0 0 [.ref 0, .ref (1010 + 7), .int a2, .int a3, .int a4] (kTp (kHc x) r) 130 (kRt (none) (kTp (kHc (g_X11_carryOut_7 x a2 a3 a4)) r) 130) := by
  refine kMet.in (by decide) rfl rfl _ rfl ?_
  refine k_gets (Cn := "BoomerangCourt$1") (n := "$SwitchMap$BoomerangCourt$Command") (d := "[I") (id9 := 1002) (by decide) (gm 1315 (by decide +kernel) (by decide +kernel)) dX11_carryOut_0 (rfl : 0 + 3 = 3) ?_
  refine k_aload_n (i := 1) dX11_carryOut_3 (rfl : 3 + 1 = 4) rfl rfl ?_
  refine k_callUd0 (Cx := "BoomerangCourt$Command") nm_Jx29ce0_ordinal_8abf5 rfl (gm 1317 (by decide +kernel) (by decide +kernel)) (gm 1318 (by decide +kernel) (by decide +kernel)) (gm 1320 (by decide +kernel) (by decide +kernel)) (gm 1321 (by decide +kernel) (by decide +kernel)) ⟨Nat.le_of_ble_eq_true rfl, Nat.le_of_ble_eq_true rfl⟩ (m_Jx29ce0_ordinal (k9 := 7) (by decide)) dX11_carryOut_4 (rfl : 4 + 3 = 7) (kEn_O (k9 := 7) (by decide)) rfl ⟨Nat.le_of_ble_eq_true rfl, Nat.le_of_ble_eq_true rfl⟩ ?_
  refine k_sald (id9 := 1002) (vs := kSw) (by decide) dX11_carryOut_7 (rfl : 7 + 1 = 8) (by first | decide | assumption) ?_
  refine k_tableIn (tgt := 138) dX11_carryOut_8 (by decide) (by decide) rfl (by decide) ?_
  refine k_aload_n (i := 0) dX11_carryOut_138 (rfl : 138 + 1 = 139) rfl rfl ?_
  refine k_iload_n (i := 2) dX11_carryOut_139 (rfl : 139 + 1 = 140) rfl rfl ?_
  refine k_callVd1 cv_X11_249 ⟨Nat.le_of_ble_eq_true rfl, Nat.le_of_ble_eq_true rfl⟩ (m_X11_purchase) dX11_carryOut_140 (rfl : 140 + 3 = 143) (Nat.le_of_ble_eq_true rfl) rfl rfl rfl ⟨Nat.le_of_ble_eq_true rfl, Nat.le_of_ble_eq_true rfl⟩ ?_
  refine k_pop dX11_carryOut_143 (rfl : 143 + 1 = 144) rfl ?_
  refine k_goto (tgt := 165) dX11_carryOut_144 (by decide) ?_
  refine k_vret rfl dX11_carryOut_165 (Nat.le_of_ble_eq_true rfl) (Nat.le_of_ble_eq_true rfl) ?_
  exact kRt_of rfl rfl
def g_X11_carryOut_8 (x : kK) (a2 : Int32) (a3 : Int32) (a4 : Int32) : kK := (g_X11_holdHearing x a2)
set_option maxRecDepth 100000 in
set_option maxHeartbeats 4000000 in
theorem m_X11_carryOut_8 {x : kK} {r : kH} {a2 : Int32} {a3 : Int32} {a4 : Int32} (iv : kIv (x.1 0)) (hp : ¬ f_X3_hasPlea x a2 = 0) : kMet kX11_carryOut false 0 0 [.ref 0, .ref (1010 + 8), .int a2, .int a3, .int a4] (kTp (kHc x) r) 130 (kRt (none) (kTp (kHc (g_X11_carryOut_8 x a2 a3 a4)) r) 130) := by
  refine kMet.in (by decide) rfl rfl _ rfl ?_
  refine k_gets (Cn := "BoomerangCourt$1") (n := "$SwitchMap$BoomerangCourt$Command") (d := "[I") (id9 := 1002) (by decide) (gm 1315 (by decide +kernel) (by decide +kernel)) dX11_carryOut_0 (rfl : 0 + 3 = 3) ?_
  refine k_aload_n (i := 1) dX11_carryOut_3 (rfl : 3 + 1 = 4) rfl rfl ?_
  refine k_callUd0 (Cx := "BoomerangCourt$Command") nm_Jx29ce0_ordinal_8abf5 rfl (gm 1317 (by decide +kernel) (by decide +kernel)) (gm 1318 (by decide +kernel) (by decide +kernel)) (gm 1320 (by decide +kernel) (by decide +kernel)) (gm 1321 (by decide +kernel) (by decide +kernel)) ⟨Nat.le_of_ble_eq_true rfl, Nat.le_of_ble_eq_true rfl⟩ (m_Jx29ce0_ordinal (k9 := 8) (by decide)) dX11_carryOut_4 (rfl : 4 + 3 = 7) (kEn_O (k9 := 8) (by decide)) rfl ⟨Nat.le_of_ble_eq_true rfl, Nat.le_of_ble_eq_true rfl⟩ ?_
  refine k_sald (id9 := 1002) (vs := kSw) (by decide) dX11_carryOut_7 (rfl : 7 + 1 = 8) (by first | decide | assumption) ?_
  refine k_tableIn (tgt := 147) dX11_carryOut_8 (by decide) (by decide) rfl (by decide) ?_
  refine k_aload_n (i := 0) dX11_carryOut_147 (rfl : 147 + 1 = 148) rfl rfl ?_
  refine k_iload_n (i := 2) dX11_carryOut_148 (rfl : 148 + 1 = 149) rfl rfl ?_
  refine k_callVd1 cv_X11_293 ⟨Nat.le_of_ble_eq_true rfl, Nat.le_of_ble_eq_true rfl⟩ (m_X11_holdHearing iv hp) dX11_carryOut_149 (rfl : 149 + 3 = 152) (Nat.le_of_ble_eq_true rfl) rfl rfl rfl ⟨Nat.le_of_ble_eq_true rfl, Nat.le_of_ble_eq_true rfl⟩ ?_
  refine k_pop dX11_carryOut_152 (rfl : 152 + 1 = 153) rfl ?_
  refine k_goto (tgt := 165) dX11_carryOut_153 (by decide) ?_
  refine k_vret rfl dX11_carryOut_165 (Nat.le_of_ble_eq_true rfl) (Nat.le_of_ble_eq_true rfl) ?_
  exact kRt_of rfl rfl
def g_X11_carryOut_9 (x : kK) (a2 : Int32) (a3 : Int32) (a4 : Int32) : kK := (g_X11_passHours x a2)
set_option maxRecDepth 100000 in
set_option maxHeartbeats 4000000 in
theorem m_X11_carryOut_9 {x : kK} {r : kH} {a2 : Int32} {a3 : Int32} {a4 : Int32} (iv : kIv (x.1 0)) : kMet kX11_carryOut false 0 0 [.ref 0, .ref (1010 + 9), .int a2, .int a3, .int a4] (kTp (kHc x) r) 130 (kRt (none) (kTp (kHc (g_X11_carryOut_9 x a2 a3 a4)) r) 130) := by
  refine kMet.in (by decide) rfl rfl _ rfl ?_
  refine k_gets (Cn := "BoomerangCourt$1") (n := "$SwitchMap$BoomerangCourt$Command") (d := "[I") (id9 := 1002) (by decide) (gm 1315 (by decide +kernel) (by decide +kernel)) dX11_carryOut_0 (rfl : 0 + 3 = 3) ?_
  refine k_aload_n (i := 1) dX11_carryOut_3 (rfl : 3 + 1 = 4) rfl rfl ?_
  refine k_callUd0 (Cx := "BoomerangCourt$Command") nm_Jx29ce0_ordinal_8abf5 rfl (gm 1317 (by decide +kernel) (by decide +kernel)) (gm 1318 (by decide +kernel) (by decide +kernel)) (gm 1320 (by decide +kernel) (by decide +kernel)) (gm 1321 (by decide +kernel) (by decide +kernel)) ⟨Nat.le_of_ble_eq_true rfl, Nat.le_of_ble_eq_true rfl⟩ (m_Jx29ce0_ordinal (k9 := 9) (by decide)) dX11_carryOut_4 (rfl : 4 + 3 = 7) (kEn_O (k9 := 9) (by decide)) rfl ⟨Nat.le_of_ble_eq_true rfl, Nat.le_of_ble_eq_true rfl⟩ ?_
  refine k_sald (id9 := 1002) (vs := kSw) (by decide) dX11_carryOut_7 (rfl : 7 + 1 = 8) (by first | decide | assumption) ?_
  refine k_tableIn (tgt := 156) dX11_carryOut_8 (by decide) (by decide) rfl (by decide) ?_
  refine k_aload_n (i := 0) dX11_carryOut_156 (rfl : 156 + 1 = 157) rfl rfl ?_
  refine k_iload_n (i := 2) dX11_carryOut_157 (rfl : 157 + 1 = 158) rfl rfl ?_
  refine k_callVd1 cv_X11_306 ⟨Nat.le_of_ble_eq_true rfl, Nat.le_of_ble_eq_true rfl⟩ (m_X11_passHours iv) dX11_carryOut_158 (rfl : 158 + 3 = 161) (Nat.le_of_ble_eq_true rfl) rfl rfl rfl ⟨Nat.le_of_ble_eq_true rfl, Nat.le_of_ble_eq_true rfl⟩ ?_
  refine k_pop dX11_carryOut_161 (rfl : 161 + 1 = 162) rfl ?_
  refine k_goto (tgt := 165) dX11_carryOut_162 (by decide) ?_
  refine k_vret rfl dX11_carryOut_165 (Nat.le_of_ble_eq_true rfl) (Nat.le_of_ble_eq_true rfl) ?_
  exact kRt_of rfl rfl
def f_cc (x : kK) (k : Nat) (a b c : Int32) : Int32 :=
  match k with
  | 0 => f_X11_checkCommand_0 x a b c
  | 1 => f_X11_checkCommand_1 x a b c
  | 2 => f_X11_checkCommand_2 x a b c
  | 3 => f_X11_checkCommand_3 x a b c
  | 4 => f_X11_checkCommand_4 x a b c
  | 5 => f_X11_checkCommand_5 a b c
  | 6 => f_X11_checkCommand_6 x a b c
  | 7 => f_X11_checkCommand_7 x a b c
  | 8 => f_X11_checkCommand_8 x a b c
  | _ => f_X11_checkCommand_9 a b c
def g_cc (x : kK) (k : Nat) (a b c : Int32) : kK :=
  match k with
  | 0 => g_X11_checkCommand_0 x a b c
  | 1 => g_X11_checkCommand_1 x a b c
  | 2 => g_X11_checkCommand_2 x a b c
  | 3 => g_X11_checkCommand_3 x a b c
  | 4 => g_X11_checkCommand_4 x a b c
  | 5 => x
  | 6 => g_X11_checkCommand_6 x a b c
  | 7 => x
  | 8 => g_X11_checkCommand_8 x a b c
  | _ => x
def g_co (x : kK) (k : Nat) (a b c : Int32) : kK :=
  match k with
  | 0 => g_X11_carryOut_0 x a b c
  | 1 => g_X11_carryOut_1 x a b c
  | 2 => g_X11_carryOut_2 x a b c
  | 3 => g_X11_carryOut_3 x a b c
  | 4 => g_X11_carryOut_4 x a b c
  | 5 => g_X11_carryOut_5 x a b c
  | 6 => g_X11_carryOut_6 x a b c
  | 7 => g_X11_carryOut_7 x a b c
  | 8 => g_X11_carryOut_8 x a b c
  | _ => g_X11_carryOut_9 x a b c
theorem m_cc {x : kK} {r : kH} {k : Nat} {a b c : Int32} (hk : k < 10) (iv : kIv (x.1 0)) : kMet kX11_checkCommand false 0 0 [.ref 0, .ref (1010 + k), .int a, .int b, .int c] (kTp (kHc x) r) 130 (kRt (some (.int (f_cc x k a b c))) (kTp (kHc (g_cc x k a b c)) r) 130) :=
  match k, hk with
  | 0, _ => m_X11_checkCommand_0 iv
  | 1, _ => m_X11_checkCommand_1 iv
  | 2, _ => m_X11_checkCommand_2 iv
  | 3, _ => m_X11_checkCommand_3 iv
  | 4, _ => m_X11_checkCommand_4 iv
  | 5, _ => m_X11_checkCommand_5
  | 6, _ => m_X11_checkCommand_6 iv
  | 7, _ => m_X11_checkCommand_7
  | 8, _ => m_X11_checkCommand_8 iv
  | 9, _ => m_X11_checkCommand_9
theorem cc_ok {x : kK} {k : Nat} {a b c : Int32} (hk : k < 10) (iv : kIv (x.1 0)) (h : f_cc x k a b c = 0) : g_cc x k a b c = x :=
  match k, hk, h with
  | 0, _, h => (ok_tree h).1
  | 1, _, h => (ok_tree h).1
  | 2, _, h => (ok_bench h).1
  | 3, _, h => (ok_newParty h).1
  | 4, _, h => (ok_move iv h).1
  | 5, _, h => rfl
  | 6, _, h => (ok_summons iv h).1
  | 7, _, h => rfl
  | 8, _, h => (ok_hearing h).1
  | 9, _, h => rfl
theorem m_co {x : kK} {r : kH} {k : Nat} {a b c : Int32} (hk : k < 10) (iv : kIv (x.1 0)) (h : f_cc x k a b c = 0) : kMet kX11_carryOut false 0 0 [.ref 0, .ref (1010 + k), .int a, .int b, .int c] (kTp (kHc x) r) 130 (kRt none (kTp (kHc (g_co x k a b c)) r) 130) :=
  match k, hk, h with
  | 0, _, h => m_X11_carryOut_0
  | 1, _, h => m_X11_carryOut_1
  | 2, _, h => m_X11_carryOut_2
  | 3, _, h => m_X11_carryOut_3 iv
  | 4, _, h => m_X11_carryOut_4 (ok_move iv h).2.1
  | 5, _, h => m_X11_carryOut_5
  | 6, _, h => m_X11_carryOut_6 iv (ok_summons iv h).2.1 (ok_summons iv h).2.2.1
  | 7, _, h => m_X11_carryOut_7
  | 8, _, h => m_X11_carryOut_8 iv (ok_hearing h).2.1
  | 9, _, h => m_X11_carryOut_9 iv
theorem iv_co {x : kK} {k : Nat} {a b c : Int32} (hk : k < 10) (iv : kIv (x.1 0)) (h : f_cc x k a b c = 0) : kIv ((g_co x k a b c).1 0) :=
  match k, hk, h with
  | 0, _, h => iv_plant iv
  | 1, _, h => iv_plant iv
  | 2, _, h => iv_place iv (ok_bench h).2.1
  | 3, _, h => iv_seat iv
  | 4, _, h => iv_shift iv
  | 5, _, h => iv_wind iv (ok_wind h)
  | 6, _, h => iv_throwAt iv
  | 7, _, h => iv_buy iv
  | 8, _, h => iv_hold iv (ok_hearing h).2.1
  | 9, _, h => iv_passH iv
/-- a change of the present court, and of the flight -/
def kKq (x y : kK) : Prop := (∀ k, k ≠ 0 → y.1 k = x.1 k) ∧ (∀ k, k ≠ 2 → k ≠ 3 → y.2.1 k = x.2.1 k) ∧ (∀ k, k ≠ 0 → y.2.2.1 k = x.2.2.1 k) ∧ y.2.2.2 = x.2.2.2
theorem kKq_r {x : kK} : kKq x x := ⟨fun _ _ => rfl, fun _ _ _ => rfl, fun _ _ => rfl, rfl⟩
theorem kKq_t {x y z : kK} (h1 : kKq x y) (h2 : kKq y z) : kKq x z := ⟨fun k a => (h2.1 k a).trans (h1.1 k a), fun k a b => (h2.2.1 k a b).trans (h1.2.1 k a b), fun k a => (h2.2.2.1 k a).trans (h1.2.2.1 k a), h2.2.2.2.trans h1.2.2.2⟩
theorem kKq_T {x : kK} {v : Int64} : kKq x (nT x v) := ⟨fun k h => if_neg h, fun _ _ _ => rfl, fun _ _ => rfl, rfl⟩
theorem kKq_S {x : kK} {n : Nat} {v : Int32} : kKq x (nS x n v) := ⟨fun k h => if_neg h, fun _ _ _ => rfl, fun _ _ => rfl, rfl⟩
theorem kKq_R {x : kK} {n : Nat} {v : Nat → Int32} : kKq x (nR x n v) := ⟨fun k h => if_neg h, fun _ _ _ => rfl, fun _ _ => rfl, rfl⟩
theorem kKq_s2 {x : kK} {v : Int32} : kKq x (kkS x 2 v) := ⟨fun _ _ => rfl, fun k h _ => if_neg h, fun _ _ => rfl, rfl⟩
theorem kKq_s3 {x : kK} {v : Int32} : kKq x (kkS x 3 v) := ⟨fun _ _ => rfl, fun k _ h => if_neg h, fun _ _ => rfl, rfl⟩
theorem kKq_x0 {x : kK} {v : Nat → Int32} : kKq x (kkR x 0 v) := ⟨fun _ _ => rfl, fun _ _ _ => rfl, fun k h => if_neg h, rfl⟩
theorem q_step {x : kK} {d : Int32} : kKq x (g_X4_step x d) := by
  unfold g_X4_step
  repeat' split
  all_goals first
    | exact kKq_r
    | exact kKq_t kKq_s2 kKq_x0
theorem q_flA {d : Int32} {k : Nat} : ∀ {x : kK} {f : Int32}, kKq x (flA d k x f).1 := by
  induction k with
  | zero => intro x f; exact kKq_r
  | succ k ih =>
    intro x f
    rw [flA]
    split
    · exact kKq_r
    · exact kKq_t q_step ih
theorem q_flW {j : Nat} {y : kK × Int32} : kKq y.1 (flW j y).1 := by
  unfold flW
  repeat' split
  all_goals first
    | exact kKq_r
    | exact q_step
theorem q_flP {m : Nat} {t : Int32} {k : Nat} : ∀ {j : Nat} {d : Int32} {y : kK × Int32}, kKq y.1 (flP m t k j d y).1 := by
  induction k with
  | zero => intro j d y; exact kKq_r
  | succ k ih =>
    intro j d y
    rw [flP]
    split
    · exact kKq_r
    · exact kKq_t (kKq_t q_flA q_flW) ih
theorem q_fly {x : kK} {a : Int32} : kKq x (g_X4_fly x a) := kKq_t (kKq_t (kKq_t kKq_x0 kKq_s2) q_flP) kKq_s3
theorem q_enterThrow {x : kK} {a b c : Int32} : kKq x (g_X7_enterThrow x a b c) := by
  unfold g_X7_enterThrow
  split
  all_goals exact kKq_t (kKq_t (kKq_t (kKq_t kKq_S kKq_S) kKq_S) kKq_S) kKq_S
theorem q_enterPlea {x : kK} {a b c : Int32} : kKq x (g_X3_enterPlea x a b c) := by
  unfold g_X3_enterPlea
  split
  · exact kKq_r
  · exact kKq_t (kKq_t (kKq_t kKq_R kKq_R) kKq_R) kKq_S
theorem q_throwAt {x : kK} {a b : Int32} : kKq x (g_X11_throwAt x a b) := by
  unfold g_X11_throwAt
  split
  · split
    · exact kKq_t q_fly q_enterThrow
    · exact kKq_t q_fly q_enterThrow
  · exact kKq_t (kKq_t (kKq_t q_fly q_enterThrow) kKq_R) q_enterPlea
theorem q_movePlea {x : kK} {a b : Int32} : kKq x (g_X3_movePlea x a b) := by
  unfold g_X3_movePlea
  exact kKq_t (kKq_t kKq_R kKq_R) kKq_R
theorem q_skL {k : Nat} : ∀ {x : kK} {j : Nat}, kKq x (skL x k j) := by
  induction k with
  | zero => intro x j; exact kKq_r
  | succ k ih =>
    intro x j
    rw [skL]
    exact kKq_t q_movePlea ih
theorem q_strike {x : kK} {a : Int32} : kKq x (g_X3_strike x a) := kKq_t q_skL kKq_S
theorem q_phL {hr : Int32} {k : Nat} : ∀ {x : kK} {j p : Nat}, kKq x (phL hr k x j p).1 := by
  induction k with
  | zero => intro x j p; exact kKq_r
  | succ k ih =>
    intro x j p
    rw [phL]
    split
    · exact ih
    · exact kKq_t q_movePlea ih
theorem q_passHour {x : kK} : kKq x (g_X3_passHour x) := kKq_t (kKq_t kKq_S q_phL) kKq_S
theorem q_hold {x : kK} {a : Int32} : kKq x (g_X11_holdHearing x a) := kKq_t (kKq_t (kKq_t kKq_S kKq_S) q_strike) q_passHour
theorem q_paL {a : Int32} {k : Nat} : ∀ {x : kK} {j : Nat} {s : Int32}, kKq x (paL a k x j s).1 := by
  induction k with
  | zero => intro x j s; exact kKq_r
  | succ k ih =>
    intro x j s
    rw [paL]
    exact kKq_t q_passHour ih
theorem q_plant {x : kK} {a b c : Int32} : kKq x (g_X11_plant x a b c) := by
  unfold g_X11_plant
  split
  all_goals exact kKq_T
theorem q_seat {x : kK} {a b : Int32} : kKq x (g_X11_seatParty x a b) := by
  unfold g_X11_seatParty
  split
  · exact kKq_r
  · exact kKq_t kKq_R kKq_S
theorem q_co {x : kK} {k : Nat} {a b c : Int32} (hk : k < 10) : kKq x (g_co x k a b c) :=
  match k, hk with
  | 0, _ => q_plant
  | 1, _ => q_plant
  | 2, _ => kKq_S
  | 3, _ => q_seat
  | 4, _ => kKq_R
  | 5, _ => kKq_t kKq_S kKq_S
  | 6, _ => q_throwAt
  | 7, _ => kKq_t (kKq_t kKq_S kKq_S) kKq_S
  | 8, _ => q_hold
  | 9, _ => q_paL
theorem m_commandAt {x : kK} {r : kH} {c j : Nat} (hn : x.2.1 6 = nI c) (hc : kCn x c) (hj : j < c) (h11 : c ≤ 11) : kMet kX2_commandAt false 0 0 [.ref 109, .int (nI j)] (kTp (kHc x) r) 130 (kRt (some (.ref (1010 + kCd x (nI j)))) (kTp (kHc x) r) 130) :=
  m_X2_commandAt (vp_in_nI (by omega) (by omega)) (nI_nlt0 (by omega)) (by rw [hn]; exact nI_ge hj (by omega)) (kCd_of hc hj (by omega)).2
def ccL : Nat → kK → Nat → kK × Int32
  | 0, x, j => (x, (-1))
  | k + 1, x, j => if (f_cc x (kCd x (nI j)) (f_X2_operandAt x (nI j) 0) (f_X2_operandAt x (nI j) 1) (f_X2_operandAt x (nI j) 2)) = 0 then (ccL k (g_co (g_cc x (kCd x (nI j)) (f_X2_operandAt x (nI j) 0) (f_X2_operandAt x (nI j) 1) (f_X2_operandAt x (nI j) 2)) (kCd x (nI j)) (f_X2_operandAt x (nI j) 0) (f_X2_operandAt x (nI j) 1) (f_X2_operandAt x (nI j) 2)) (j + 1)) else ((g_cc x (kCd x (nI j)) (f_X2_operandAt x (nI j) 0) (f_X2_operandAt x (nI j) 1) (f_X2_operandAt x (nI j) 2)), (nI j))
set_option maxRecDepth 100000 in
set_option maxHeartbeats 4000000 in
theorem lccL {r : kH} {c : Nat}  (h11 : c ≤ 11) : ∀ (k : Nat) (x : kK) (j : Nat) (t2 : Value) (t3 : Value) (t4 : Value) (t5 : Value), j + k = c → x.2.1 6 = nI c → kCn x c → kIv (x.1 0) → kEv kX11_carryOutCommands (kRm kX11_carryOutCommands 0 0) (kFm false 0 0 ((kRt (some (.int (ccL k x j).2)) (kTp (kHc (ccL k x j).1) r) 130))) false 2 [.ref 0, .int (nI j), t2, t3, t4, t5] [] (kTp (kHc x) r) 130 0 0 := by
  intro k
  induction k with
  | zero =>
    intro x j t2 t3 t4 t5 hj en hc iv
    refine k_iload_n (i := 1) dX11_carryOutCommands_2 (rfl : 2 + 1 = 3) rfl rfl ?_
    refine k_aload_n (i := 0) dX11_carryOutCommands_3 (rfl : 3 + 1 = 4) rfl rfl ?_
    refine k_get 11 6 fg_X11_46 dX11_carryOutCommands_4 (rfl : 4 + 3 = 7) (Nat.le_of_ble_eq_true rfl) rfl rfl ?_
    refine k_get 2 3 fg_X11_377 dX11_carryOutCommands_7 (rfl : 7 + 3 = 10) (Nat.le_of_ble_eq_true rfl) rfl rfl ?_
    refine k_icmp_ge (tgt := 89) dX11_carryOutCommands_10 (rfl : 10 + 3 = 13) (by decide) (fun b10 => ?_) (fun b10 => by exact absurd (by rw [en]; exact nI_le (a := c) (b := j) (by omega) (by omega)) b10)
    refine k_iconst (v := (-1)) dX11_carryOutCommands_89 (rfl : 89 + 1 = 90) (by decide) ?_
    refine k_iret rfl rfl dX11_carryOutCommands_90 (Nat.le_of_ble_eq_true rfl) (Nat.le_of_ble_eq_true rfl) ?_
    have e9 : (ccL 0 x j) = (x, (-1)) := by rw [ccL]
    exact kRt_of (congrArg (fun z => some (Value.int z)) (Eq.symm (congrArg Prod.snd e9))) (congrArg (fun z => kTp (kHc z) r) (Eq.symm (congrArg Prod.fst e9)))
  | succ k ih =>
    intro x j t2 t3 t4 t5 hj en hc iv
    refine k_iload_n (i := 1) dX11_carryOutCommands_2 (rfl : 2 + 1 = 3) rfl rfl ?_
    refine k_aload_n (i := 0) dX11_carryOutCommands_3 (rfl : 3 + 1 = 4) rfl rfl ?_
    refine k_get 11 6 fg_X11_46 dX11_carryOutCommands_4 (rfl : 4 + 3 = 7) (Nat.le_of_ble_eq_true rfl) rfl rfl ?_
    refine k_get 2 3 fg_X11_377 dX11_carryOutCommands_7 (rfl : 7 + 3 = 10) (Nat.le_of_ble_eq_true rfl) rfl rfl ?_
    refine k_icmp_ge (tgt := 89) dX11_carryOutCommands_10 (rfl : 10 + 3 = 13) (by decide) (fun b10 => by exact absurd (by rw [en] at b10; exact b10) (nI_ge (a := j) (b := c) (by omega) (by omega))) (fun b10 => ?_)
    refine k_aload_n (i := 0) dX11_carryOutCommands_13 (rfl : 13 + 1 = 14) rfl rfl ?_
    refine k_get 11 6 fg_X11_46 dX11_carryOutCommands_14 (rfl : 14 + 3 = 17) (Nat.le_of_ble_eq_true rfl) rfl rfl ?_
    refine k_iload_n (i := 1) dX11_carryOutCommands_17 (rfl : 17 + 1 = 18) rfl rfl ?_
    refine k_callVd1 cv_X11_516 ⟨Nat.le_of_ble_eq_true rfl, Nat.le_of_ble_eq_true rfl⟩ (m_commandAt en hc (by omega) h11) dX11_carryOutCommands_18 (rfl : 18 + 3 = 21) (Nat.le_of_ble_eq_true rfl) rfl rfl rfl ⟨Nat.le_of_ble_eq_true rfl, Nat.le_of_ble_eq_true rfl⟩ ?_
    refine k_astore_n (i := 2) dX11_carryOutCommands_21 (rfl : 21 + 1 = 22) rfl (Nat.le_of_ble_eq_true rfl) ?_
    refine k_ls (ls2 := [.ref 0, .int (nI j), .ref (1010 + (kCd x (nI j))), t3, t4, t5]) rfl ?_
    refine k_aload_n (i := 0) dX11_carryOutCommands_22 (rfl : 22 + 1 = 23) rfl rfl ?_
    refine k_get 11 6 fg_X11_46 dX11_carryOutCommands_23 (rfl : 23 + 3 = 26) (Nat.le_of_ble_eq_true rfl) rfl rfl ?_
    refine k_iload_n (i := 1) dX11_carryOutCommands_26 (rfl : 26 + 1 = 27) rfl rfl ?_
    refine k_iconst (v := 0) dX11_carryOutCommands_27 (rfl : 27 + 1 = 28) (by decide) ?_
    refine k_callVd2 cv_X11_520 ⟨Nat.le_of_ble_eq_true rfl, Nat.le_of_ble_eq_true rfl⟩ (m_X2_operandAt ⟨c, h11, en⟩) dX11_carryOutCommands_28 (rfl : 28 + 3 = 31) (Nat.le_of_ble_eq_true rfl) rfl rfl rfl ⟨Nat.le_of_ble_eq_true rfl, Nat.le_of_ble_eq_true rfl⟩ ?_
    refine k_istore_n (i := 3) dX11_carryOutCommands_31 (rfl : 31 + 1 = 32) rfl (Nat.le_of_ble_eq_true rfl) ?_
    refine k_ls (ls2 := [.ref 0, .int (nI j), .ref (1010 + (kCd x (nI j))), .int (f_X2_operandAt x (nI j) 0), t4, t5]) rfl ?_
    refine k_aload_n (i := 0) dX11_carryOutCommands_32 (rfl : 32 + 1 = 33) rfl rfl ?_
    refine k_get 11 6 fg_X11_46 dX11_carryOutCommands_33 (rfl : 33 + 3 = 36) (Nat.le_of_ble_eq_true rfl) rfl rfl ?_
    refine k_iload_n (i := 1) dX11_carryOutCommands_36 (rfl : 36 + 1 = 37) rfl rfl ?_
    refine k_iconst (v := 1) dX11_carryOutCommands_37 (rfl : 37 + 1 = 38) (by decide) ?_
    refine k_callVd2 cv_X11_520 ⟨Nat.le_of_ble_eq_true rfl, Nat.le_of_ble_eq_true rfl⟩ (m_X2_operandAt ⟨c, h11, en⟩) dX11_carryOutCommands_38 (rfl : 38 + 3 = 41) (Nat.le_of_ble_eq_true rfl) rfl rfl rfl ⟨Nat.le_of_ble_eq_true rfl, Nat.le_of_ble_eq_true rfl⟩ ?_
    refine k_istore (i := 4) dX11_carryOutCommands_41 (rfl : 41 + 2 = 43) (Nat.le_of_ble_eq_true rfl) ?_
    refine k_ls (ls2 := [.ref 0, .int (nI j), .ref (1010 + (kCd x (nI j))), .int (f_X2_operandAt x (nI j) 0), .int (f_X2_operandAt x (nI j) 1), t5]) rfl ?_
    refine k_aload_n (i := 0) dX11_carryOutCommands_43 (rfl : 43 + 1 = 44) rfl rfl ?_
    refine k_get 11 6 fg_X11_46 dX11_carryOutCommands_44 (rfl : 44 + 3 = 47) (Nat.le_of_ble_eq_true rfl) rfl rfl ?_
    refine k_iload_n (i := 1) dX11_carryOutCommands_47 (rfl : 47 + 1 = 48) rfl rfl ?_
    refine k_iconst (v := 2) dX11_carryOutCommands_48 (rfl : 48 + 1 = 49) (by decide) ?_
    refine k_callVd2 cv_X11_520 ⟨Nat.le_of_ble_eq_true rfl, Nat.le_of_ble_eq_true rfl⟩ (m_X2_operandAt ⟨c, h11, en⟩) dX11_carryOutCommands_49 (rfl : 49 + 3 = 52) (Nat.le_of_ble_eq_true rfl) rfl rfl rfl ⟨Nat.le_of_ble_eq_true rfl, Nat.le_of_ble_eq_true rfl⟩ ?_
    refine k_istore (i := 5) dX11_carryOutCommands_52 (rfl : 52 + 2 = 54) (Nat.le_of_ble_eq_true rfl) ?_
    refine k_ls (ls2 := [.ref 0, .int (nI j), .ref (1010 + (kCd x (nI j))), .int (f_X2_operandAt x (nI j) 0), .int (f_X2_operandAt x (nI j) 1), .int (f_X2_operandAt x (nI j) 2)]) rfl ?_
    refine k_aload_n (i := 2) dX11_carryOutCommands_54 (rfl : 54 + 1 = 55) rfl rfl ?_
    refine k_ifnull dX11_carryOutCommands_55 (rfl : 55 + 3 = 58) ?_
    refine k_aload_n (i := 0) dX11_carryOutCommands_58 (rfl : 58 + 1 = 59) rfl rfl ?_
    refine k_aload_n (i := 2) dX11_carryOutCommands_59 (rfl : 59 + 1 = 60) rfl rfl ?_
    refine k_iload_n (i := 3) dX11_carryOutCommands_60 (rfl : 60 + 1 = 61) rfl rfl ?_
    refine k_iload (i := 4) dX11_carryOutCommands_61 (rfl : 61 + 2 = 63) rfl ?_
    refine k_iload (i := 5) dX11_carryOutCommands_63 (rfl : 63 + 2 = 65) rfl ?_
    refine k_callVd4 cv_X11_523 ⟨Nat.le_of_ble_eq_true rfl, Nat.le_of_ble_eq_true rfl⟩ (m_cc (kCd_of hc (show j < c by omega) (by omega)).1 iv) dX11_carryOutCommands_65 (rfl : 65 + 3 = 68) (Nat.le_of_ble_eq_true rfl) rfl rfl rfl ⟨Nat.le_of_ble_eq_true rfl, Nat.le_of_ble_eq_true rfl⟩ ?_
    generalize hg1 : (g_cc x (kCd x (nI j)) (f_X2_operandAt x (nI j) 0) (f_X2_operandAt x (nI j) 1) (f_X2_operandAt x (nI j) 2)) = y1
    refine k_if_eq (tgt := 73) dX11_carryOutCommands_68 (rfl : 68 + 3 = 71) (by decide) (fun b68 => ?_) (fun b68 => ?_)
    · refine k_aload_n (i := 0) dX11_carryOutCommands_73 (rfl : 73 + 1 = 74) rfl rfl ?_
      refine k_aload_n (i := 2) dX11_carryOutCommands_74 (rfl : 74 + 1 = 75) rfl rfl ?_
      refine k_iload_n (i := 3) dX11_carryOutCommands_75 (rfl : 75 + 1 = 76) rfl rfl ?_
      refine k_iload (i := 4) dX11_carryOutCommands_76 (rfl : 76 + 2 = 78) rfl ?_
      refine k_iload (i := 5) dX11_carryOutCommands_78 (rfl : 78 + 2 = 80) rfl ?_
      refine k_callVv4 cv_X11_527 ⟨Nat.le_of_ble_eq_true rfl, Nat.le_of_ble_eq_true rfl⟩ (m_co (kCd_of hc (show j < c by omega) (by omega)).1 (by rw [← hg1, cc_ok (kCd_of hc (show j < c by omega) (by omega)).1 iv b68]; exact iv) (by rw [← hg1, cc_ok (kCd_of hc (show j < c by omega) (by omega)).1 iv b68]; exact b68)) dX11_carryOutCommands_80 (rfl : 80 + 3 = 83) (Nat.le_of_ble_eq_true rfl) rfl rfl rfl ⟨Nat.le_of_ble_eq_true rfl, Nat.le_of_ble_eq_true rfl⟩ ?_
      generalize hg2 : (g_co y1 (kCd x (nI j)) (f_X2_operandAt x (nI j) 0) (f_X2_operandAt x (nI j) 1) (f_X2_operandAt x (nI j) 2)) = y2
      refine k_iinc (i := 1) (v := (nI (j + 1))) dX11_carryOutCommands_83 (rfl : 83 + 3 = 86) rfl (Nat.le_of_ble_eq_true rfl) (nI_1 _) ?_
      refine k_ls (ls2 := [.ref 0, .int (nI (j + 1)), .ref (1010 + (kCd x (nI j))), .int (f_X2_operandAt x (nI j) 0), .int (f_X2_operandAt x (nI j) 1), .int (f_X2_operandAt x (nI j) 2)]) rfl ?_
      refine k_goto (tgt := 2) dX11_carryOutCommands_86 (by decide) ?_
      subst hg2
      subst hg1
      rw [ccL, if_pos (show (f_cc x (kCd x (nI j)) (f_X2_operandAt x (nI j) 0) (f_X2_operandAt x (nI j) 1) (f_X2_operandAt x (nI j) 2)) = 0 from b68)]
      exact ih (g_co (g_cc x (kCd x (nI j)) (f_X2_operandAt x (nI j) 0) (f_X2_operandAt x (nI j) 1) (f_X2_operandAt x (nI j) 2)) (kCd x (nI j)) (f_X2_operandAt x (nI j) 0) (f_X2_operandAt x (nI j) 1) (f_X2_operandAt x (nI j) 2)) (j + 1) _ _ _ _ (by omega) (by rw [cc_ok (kCd_of hc (show j < c by omega) (by omega)).1 iv b68, (q_co (kCd_of hc (show j < c by omega) (by omega)).1).2.1 6 (by decide) (by decide)]; exact en) (by rw [cc_ok (kCd_of hc (show j < c by omega) (by omega)).1 iv b68]; intro i hi; rw [(q_co (kCd_of hc (show j < c by omega) (by omega)).1).2.2.2]; exact hc i hi) (by rw [cc_ok (kCd_of hc (show j < c by omega) (by omega)).1 iv b68]; exact iv_co (kCd_of hc (show j < c by omega) (by omega)).1 iv b68)
    · refine k_iload_n (i := 1) dX11_carryOutCommands_71 (rfl : 71 + 1 = 72) rfl rfl ?_
      refine k_iret rfl rfl dX11_carryOutCommands_72 (Nat.le_of_ble_eq_true rfl) (Nat.le_of_ble_eq_true rfl) ?_
      subst hg1
      have e9 : (ccL (k + 1) x j) = ((g_cc x (kCd x (nI j)) (f_X2_operandAt x (nI j) 0) (f_X2_operandAt x (nI j) 1) (f_X2_operandAt x (nI j) 2)), (nI j)) := by rw [ccL, if_neg (show ¬ ((f_cc x (kCd x (nI j)) (f_X2_operandAt x (nI j) 0) (f_X2_operandAt x (nI j) 1) (f_X2_operandAt x (nI j) 2)) = 0) from b68)]
      exact kRt_of (congrArg (fun z => some (Value.int z)) (Eq.symm (congrArg Prod.snd e9))) (congrArg (fun z => kTp (kHc z) r) (Eq.symm (congrArg Prod.fst e9)))
set_option maxRecDepth 100000 in
set_option maxHeartbeats 4000000 in
theorem m_X11_carryOutCommands {x : kK} {r : kH} {c : Nat} (h11 : c ≤ 11) (en : x.2.1 6 = nI c) (hc : kCn x c) (iv : kIv (x.1 0)) : kMet kX11_carryOutCommands false 0 0 [.ref 0] (kTp (kHc x) r) 130 (kRt (some (.int (ccL (Int32.toNatClampNeg (x.2.1 6)) x 0).2)) (kTp (kHc (ccL (Int32.toNatClampNeg (x.2.1 6)) x 0).1) r) 130) := by
  refine kMet.in (by decide) rfl rfl _ rfl ?_
  refine k_iconst (v := 0) dX11_carryOutCommands_0 (rfl : 0 + 1 = 1) (by decide) ?_
  refine k_istore_n (i := 1) dX11_carryOutCommands_1 (rfl : 1 + 1 = 2) rfl (Nat.le_of_ble_eq_true rfl) ?_
  have e9 : Int32.toNatClampNeg (x.2.1 6) = c := by rw [en, nI_clamp (by omega)]
  rw [e9]
  exact lccL h11 c x 0 _ _ _ _ (by omega) en hc iv
theorem p_cc {x : kK} {k : Nat} {a b c : Int32} (hk : k < 10) : kKp x (g_cc x k a b c) :=
  match k, hk with
  | 0, _ => kp_checkTree
  | 1, _ => kp_checkTree
  | 2, _ => kp_checkBench
  | 3, _ => kp_checkNewParty
  | 4, _ => kp_checkMove
  | 5, _ => kKp_r
  | 6, _ => kp_checkSummons
  | 7, _ => kKp_r
  | 8, _ => kp_checkHearing
  | 9, _ => kKp_r
/-- what running commands may change -/
def kKr (x y : kK) : Prop := (∀ k, k ≠ 0 → y.1 k = x.1 k) ∧ (∀ k, k ≠ 2 → k ≠ 3 → k ≠ 9 → k ≠ 10 → y.2.1 k = x.2.1 k) ∧ (∀ k, k ≠ 0 → y.2.2.1 k = x.2.2.1 k) ∧ y.2.2.2 = x.2.2.2
theorem kKr_r {x : kK} : kKr x x := ⟨fun _ _ => rfl, fun _ _ _ _ _ => rfl, fun _ _ => rfl, rfl⟩
theorem kKr_t {x y z : kK} (h1 : kKr x y) (h2 : kKr y z) : kKr x z := ⟨fun k a => (h2.1 k a).trans (h1.1 k a), fun k a b c d => (h2.2.1 k a b c d).trans (h1.2.1 k a b c d), fun k a => (h2.2.2.1 k a).trans (h1.2.2.1 k a), h2.2.2.2.trans h1.2.2.2⟩
theorem kKr_q {x y : kK} (h : kKq x y) : kKr x y := ⟨h.1, fun k a b _ _ => h.2.1 k a b, h.2.2.1, h.2.2.2⟩
theorem kKr_p {x y : kK} (h : kKp x y) : kKr x y := ⟨fun k _ => by rw [h.1], fun k _ _ a b => h.2.1 k a b, fun k _ => by rw [h.2.2], by rw [h.2.2]⟩
theorem ccL_keep {c : Nat} (h11 : c ≤ 11) {k : Nat} : ∀ {x : kK} {j : Nat}, j + k = c → x.2.1 6 = nI c → kCn x c → kIv (x.1 0) → kKr x (ccL k x j).1 ∧ kIv ((ccL k x j).1.1 0) := by
  induction k with
  | zero => intro x j _ _ _ iv; exact ⟨kKr_r, iv⟩
  | succ k ih =>
    intro x j hj en hc iv
    have hk := (kCd_of hc (show j < c by omega) (by omega)).1
    rw [ccL]
    split
    · rename_i h0
      rw [cc_ok hk iv h0]
      have h1 := q_co (x := x) (a := f_X2_operandAt x (nI j) 0) (b := f_X2_operandAt x (nI j) 1) (c := f_X2_operandAt x (nI j) 2) hk
      have h2 := ih (x := g_co x (kCd x (nI j)) (f_X2_operandAt x (nI j) 0) (f_X2_operandAt x (nI j) 1) (f_X2_operandAt x (nI j) 2)) (j := j + 1) (by omega) ((h1.2.1 6 (by decide) (by decide)).trans en) (fun i hi => by rw [h1.2.2.2]; exact hc i hi) (iv_co hk iv h0)
      exact ⟨kKr_t (kKr_q h1) h2.1, h2.2⟩
    · exact ⟨kKr_p (p_cc hk), iv_kp (p_cc hk) iv⟩
theorem kkC_0 {x : kK} {c : kCo} : (kkC x 2 c).1 0 = x.1 0 := if_neg (by decide)
theorem hi_kr {x y : kK} (h : kKr x y) (hh : kHi x) : kHi y := by
  obtain ⟨e, c, he, hc, h0, h1⟩ := hh
  exact ⟨e, c, he, hc, (h.2.1 0 (by decide) (by decide) (by decide) (by decide)).trans h0, (h.2.1 1 (by decide) (by decide) (by decide) (by decide)).trans h1⟩
def o_X11_run (x : kK)  : kOut := if (f_X2_readCommands x ) = 0 then (.inr "java/lang/IllegalArgumentException") else (if (ccL (Int32.toNatClampNeg ((kkC (kkS (g_X2_readCommands x ) 4 0) 2 ((kkS (g_X2_readCommands x ) 4 0).1 0)).2.1 6)) (kkC (kkS (g_X2_readCommands x ) 4 0) 2 ((kkS (g_X2_readCommands x ) 4 0).1 0)) 0).2 = (-1) then (.inl (some (.int ((remS (ccL (Int32.toNatClampNeg ((kkC (kkS (g_X2_readCommands x ) 4 0) 2 ((kkS (g_X2_readCommands x ) 4 0).1 0)).2.1 6)) (kkC (kkS (g_X2_readCommands x ) 4 0) 2 ((kkS (g_X2_readCommands x ) 4 0).1 0)) 0).1 2).2.1 6)))) else (.inr "java/lang/IllegalStateException"))
def g_X11_run (x : kK)  : kK := if (f_X2_readCommands x ) = 0 then (kkS (kkS (g_X2_readCommands x ) 4 0) 11 ((g_X2_readCommands x ).2.1 5)) else (if (ccL (Int32.toNatClampNeg ((kkC (kkS (g_X2_readCommands x ) 4 0) 2 ((kkS (g_X2_readCommands x ) 4 0).1 0)).2.1 6)) (kkC (kkS (g_X2_readCommands x ) 4 0) 2 ((kkS (g_X2_readCommands x ) 4 0).1 0)) 0).2 = (-1) then (remS (ccL (Int32.toNatClampNeg ((kkC (kkS (g_X2_readCommands x ) 4 0) 2 ((kkS (g_X2_readCommands x ) 4 0).1 0)).2.1 6)) (kkC (kkS (g_X2_readCommands x ) 4 0) 2 ((kkS (g_X2_readCommands x ) 4 0).1 0)) 0).1 2) else (kkS (kkC (ccL (Int32.toNatClampNeg ((kkC (kkS (g_X2_readCommands x ) 4 0) 2 ((kkS (g_X2_readCommands x ) 4 0).1 0)).2.1 6)) (kkC (kkS (g_X2_readCommands x ) 4 0) 2 ((kkS (g_X2_readCommands x ) 4 0).1 0)) 0).1 0 ((ccL (Int32.toNatClampNeg ((kkC (kkS (g_X2_readCommands x ) 4 0) 2 ((kkS (g_X2_readCommands x ) 4 0).1 0)).2.1 6)) (kkC (kkS (g_X2_readCommands x ) 4 0) 2 ((kkS (g_X2_readCommands x ) 4 0).1 0)) 0).1.1 2)) 12 ((ccL (Int32.toNatClampNeg ((kkC (kkS (g_X2_readCommands x ) 4 0) 2 ((kkS (g_X2_readCommands x ) 4 0).1 0)).2.1 6)) (kkC (kkS (g_X2_readCommands x ) 4 0) 2 ((kkS (g_X2_readCommands x ) 4 0).1 0)) 0).2)))
set_option maxRecDepth 100000 in
set_option maxHeartbeats 4000000 in
theorem m_X11_run {x : kK} {r : kH} (hl : kTl x) (iv : kIv (x.1 0)) (hh : kHi x) : kMet kX11_run false 1 6 [.ref 0] (kTp (kHc x) r) 130 (kRo (o_X11_run x ) (kTp (kHc (g_X11_run x )) r) 130) := by
  refine kMet.in (by decide) rfl rfl _ rfl ?_
  refine k_aload_n (i := 0) dX11_run_0 (rfl : 0 + 1 = 1) rfl rfl ?_
  refine k_get 11 6 fg_X11_46 dX11_run_1 (rfl : 1 + 3 = 4) (Nat.le_of_ble_eq_true rfl) rfl rfl ?_
  refine k_callVd0 cv_X11_359 ⟨Nat.le_of_ble_eq_true rfl, Nat.le_of_ble_eq_true rfl⟩ (m_X2_readCommands hl) dX11_run_4 (rfl : 4 + 3 = 7) (Nat.le_of_ble_eq_true rfl) rfl rfl rfl ⟨Nat.le_of_ble_eq_true rfl, Nat.le_of_ble_eq_true rfl⟩ ?_
  generalize hg1 : (g_X2_readCommands x ) = y1
  have rc : kRc x y1 (f_X2_readCommands x) := by rw [← hg1]; exact rcs_ok hl
  refine k_istore_n (i := 1) dX11_run_7 (rfl : 7 + 1 = 8) rfl (Nat.le_of_ble_eq_true rfl) ?_
  refine k_ls (ls2 := [.ref 0, .int (f_X2_readCommands x ), .retAddr 0]) rfl ?_
  refine k_aload_n (i := 0) dX11_run_8 (rfl : 8 + 1 = 9) rfl rfl ?_
  refine k_get 11 6 fg_X11_46 dX11_run_9 (rfl : 9 + 3 = 12) (Nat.le_of_ble_eq_true rfl) rfl rfl ?_
  refine k_iconst (v := 0) dX11_run_12 (rfl : 12 + 1 = 13) (by decide) ?_
  refine k_put 2 1 fp_X11_352 dX11_run_13 (rfl : 13 + 3 = 16) (Nat.le_of_ble_eq_true rfl) rfl (Nat.le_of_ble_eq_true rfl) rfl rfl ?_
  refine kf_C4 (v := 0) rfl ?_
  refine k_iload_n (i := 1) dX11_run_16 (rfl : 16 + 1 = 17) rfl rfl ?_
  refine k_if_ne (tgt := 42) dX11_run_17 (rfl : 17 + 3 = 20) (by decide) (fun b17 => ?_) (fun b17 => ?_)
  · refine k_aload_n (i := 0) dX11_run_42 (rfl : 42 + 1 = 43) rfl rfl ?_
    refine k_get 11 2 fg_X11_19 dX11_run_43 (rfl : 43 + 3 = 46) (Nat.le_of_ble_eq_true rfl) rfl rfl ?_
    refine k_aload_n (i := 0) dX11_run_46 (rfl : 46 + 1 = 47) rfl rfl ?_
    refine k_get 11 0 fg_X11_12 dX11_run_47 (rfl : 47 + 3 = 50) (Nat.le_of_ble_eq_true rfl) rfl rfl ?_
    refine k_callVv1 cv_X11_368 ⟨Nat.le_of_ble_eq_true rfl, Nat.le_of_ble_eq_true rfl⟩ (m_X9_copyFrom (d := 2) (s := 0) (by decide) (by decide) (by decide)) dX11_run_50 (rfl : 50 + 3 = 53) (Nat.le_of_ble_eq_true rfl) rfl rfl rfl ⟨Nat.le_of_ble_eq_true rfl, Nat.le_of_ble_eq_true rfl⟩ ?_
    generalize hg2 : (kkC (kkS y1 4 0) 2 ((kkS y1 4 0).1 0)) = y2
    obtain ⟨c, h11, en, hc⟩ := rc.2.2.2.2 b17
    have en2 : y2.2.1 6 = nI c := by rw [← hg2]; exact en
    have hc2 : kCn y2 c := by rw [← hg2]; exact hc
    have iv2 : kIv (y2.1 0) := by rw [← hg2, kkC_0]; show kIv (y1.1 0); rw [rc.2.1]; exact iv
    have hi2 : kHi y2 := by rw [← hg2]; obtain ⟨e9, c9, he, hc9, h0, h1⟩ := hh; exact ⟨e9, c9, he, hc9, (rc.2.2.1 0 (by decide) (by decide)).trans h0, (rc.2.2.1 1 (by decide) (by decide)).trans h1⟩
    refine k_aload_n (i := 0) dX11_run_53 (rfl : 53 + 1 = 54) rfl rfl ?_
    refine k_callVd0 cv_X11_371 ⟨Nat.le_of_ble_eq_true rfl, Nat.le_of_ble_eq_true rfl⟩ (m_X11_carryOutCommands h11 en2 hc2 iv2) dX11_run_54 (rfl : 54 + 3 = 57) (Nat.le_of_ble_eq_true rfl) rfl rfl rfl ⟨Nat.le_of_ble_eq_true rfl, Nat.le_of_ble_eq_true rfl⟩ ?_
    generalize hg3 : (ccL (Int32.toNatClampNeg (y2.2.1 6)) y2 0).1 = y3
    have hi3 : kHi y3 := by rw [← hg3, show Int32.toNatClampNeg (y2.2.1 6) = c by rw [en2, nI_clamp (by omega)]]; exact hi_kr (ccL_keep h11 (by omega) en2 hc2 iv2).1 hi2
    refine k_istore_n (i := 2) dX11_run_57 (rfl : 57 + 1 = 58) rfl (Nat.le_of_ble_eq_true rfl) ?_
    refine k_ls (ls2 := [.ref 0, .int (f_X2_readCommands x ), .int (ccL (Int32.toNatClampNeg (y2.2.1 6)) y2 0).2]) rfl ?_
    refine k_iload_n (i := 2) dX11_run_58 (rfl : 58 + 1 = 59) rfl rfl ?_
    refine k_iconst (v := (-1)) dX11_run_59 (rfl : 59 + 1 = 60) (by decide) ?_
    refine k_icmp_eq (tgt := 90) dX11_run_60 (rfl : 60 + 3 = 63) (by decide) (fun b60 => ?_) (fun b60 => ?_)
    · refine k_aload_n (i := 0) dX11_run_90 (rfl : 90 + 1 = 91) rfl rfl ?_
      refine k_get 11 3 fg_X11_25 dX11_run_91 (rfl : 91 + 3 = 94) (Nat.le_of_ble_eq_true rfl) rfl rfl ?_
      refine k_aload_n (i := 0) dX11_run_94 (rfl : 94 + 1 = 95) rfl rfl ?_
      refine k_get 11 2 fg_X11_19 dX11_run_95 (rfl : 95 + 3 = 98) (Nat.le_of_ble_eq_true rfl) rfl rfl ?_
      refine k_callVv1 cv_X11_84 ⟨Nat.le_of_ble_eq_true rfl, Nat.le_of_ble_eq_true rfl⟩ (m_rem2 hi3) dX11_run_98 (rfl : 98 + 3 = 101) (Nat.le_of_ble_eq_true rfl) rfl rfl rfl ⟨Nat.le_of_ble_eq_true rfl, Nat.le_of_ble_eq_true rfl⟩ ?_
      generalize hg4 : (remS y3 2) = y4
      refine k_aload_n (i := 0) dX11_run_101 (rfl : 101 + 1 = 102) rfl rfl ?_
      refine k_get 11 6 fg_X11_46 dX11_run_102 (rfl : 102 + 3 = 105) (Nat.le_of_ble_eq_true rfl) rfl rfl ?_
      refine k_get 2 3 fg_X11_377 dX11_run_105 (rfl : 105 + 3 = 108) (Nat.le_of_ble_eq_true rfl) rfl rfl ?_
      refine k_iret rfl rfl dX11_run_108 (Nat.le_of_ble_eq_true rfl) (Nat.le_of_ble_eq_true rfl) ?_
      subst hg4
      subst hg3
      subst hg2
      subst hg1
      exact kRo_of (Eq.symm (Eq.trans (if_neg (show ¬ ((f_X2_readCommands x ) = 0) from b17)) (if_pos (show (ccL (Int32.toNatClampNeg ((kkC (kkS (g_X2_readCommands x ) 4 0) 2 ((kkS (g_X2_readCommands x ) 4 0).1 0)).2.1 6)) (kkC (kkS (g_X2_readCommands x ) 4 0) 2 ((kkS (g_X2_readCommands x ) 4 0).1 0)) 0).2 = (-1) from b60)))) (congrArg (fun z => kTp (kHc z) r) (Eq.symm (Eq.trans (if_neg (show ¬ ((f_X2_readCommands x ) = 0) from b17)) (if_pos (show (ccL (Int32.toNatClampNeg ((kkC (kkS (g_X2_readCommands x ) 4 0) 2 ((kkS (g_X2_readCommands x ) 4 0).1 0)).2.1 6)) (kkC (kkS (g_X2_readCommands x ) 4 0) 2 ((kkS (g_X2_readCommands x ) 4 0).1 0)) 0).2 = (-1) from b60)))))
    · refine k_aload_n (i := 0) dX11_run_63 (rfl : 63 + 1 = 64) rfl rfl ?_
      refine k_get 11 0 fg_X11_12 dX11_run_64 (rfl : 64 + 3 = 67) (Nat.le_of_ble_eq_true rfl) rfl rfl ?_
      refine k_aload_n (i := 0) dX11_run_67 (rfl : 67 + 1 = 68) rfl rfl ?_
      refine k_get 11 2 fg_X11_19 dX11_run_68 (rfl : 68 + 3 = 71) (Nat.le_of_ble_eq_true rfl) rfl rfl ?_
      refine k_callVv1 cv_X11_368 ⟨Nat.le_of_ble_eq_true rfl, Nat.le_of_ble_eq_true rfl⟩ (m_X9_copyFrom (d := 0) (s := 2) (by decide) (by decide) (by decide)) dX11_run_71 (rfl : 71 + 3 = 74) (Nat.le_of_ble_eq_true rfl) rfl rfl rfl ⟨Nat.le_of_ble_eq_true rfl, Nat.le_of_ble_eq_true rfl⟩ ?_
      generalize hg5 : (kkC y3 0 (y3.1 2)) = y5
      refine k_aload_n (i := 0) dX11_run_74 (rfl : 74 + 1 = 75) rfl rfl ?_
      refine k_iload_n (i := 2) dX11_run_75 (rfl : 75 + 1 = 76) rfl rfl ?_
      refine k_put 11 13 fp_X11_65 dX11_run_76 (rfl : 76 + 3 = 79) (Nat.le_of_ble_eq_true rfl) rfl (Nat.le_of_ble_eq_true rfl) rfl rfl ?_
      refine kf_C12 (v := (ccL (Int32.toNatClampNeg (y2.2.1 6)) y2 0).2) rfl ?_
      refine k_throwW th_X11_148_152 tx_X11_375 rfl dX11_run_79 dX11_run_82 dX11_run_83 dX11_run_86 dX11_run_89 (Nat.le_of_ble_eq_true rfl) (Nat.le_of_ble_eq_true rfl) ⟨(Nat.le_of_ble_eq_true rfl), (Nat.le_of_ble_eq_true rfl)⟩ (Nat.le_of_ble_eq_true rfl) (Nat.le_of_ble_eq_true rfl) ?_
      subst hg5
      subst hg3
      subst hg2
      subst hg1
      exact kRo_of (Eq.symm (Eq.trans (if_neg (show ¬ ((f_X2_readCommands x ) = 0) from b17)) (if_neg (show ¬ ((ccL (Int32.toNatClampNeg ((kkC (kkS (g_X2_readCommands x ) 4 0) 2 ((kkS (g_X2_readCommands x ) 4 0).1 0)).2.1 6)) (kkC (kkS (g_X2_readCommands x ) 4 0) 2 ((kkS (g_X2_readCommands x ) 4 0).1 0)) 0).2 = (-1)) from b60)))) (congrArg (fun z => kTp (kHc z) r) (Eq.symm (Eq.trans (if_neg (show ¬ ((f_X2_readCommands x ) = 0) from b17)) (if_neg (show ¬ ((ccL (Int32.toNatClampNeg ((kkC (kkS (g_X2_readCommands x ) 4 0) 2 ((kkS (g_X2_readCommands x ) 4 0).1 0)).2.1 6)) (kkC (kkS (g_X2_readCommands x ) 4 0) 2 ((kkS (g_X2_readCommands x ) 4 0).1 0)) 0).2 = (-1)) from b60)))))
  · refine k_aload_n (i := 0) dX11_run_20 (rfl : 20 + 1 = 21) rfl rfl ?_
    refine k_aload_n (i := 0) dX11_run_21 (rfl : 21 + 1 = 22) rfl rfl ?_
    refine k_get 11 6 fg_X11_46 dX11_run_22 (rfl : 22 + 3 = 25) (Nat.le_of_ble_eq_true rfl) rfl rfl ?_
    refine k_get 2 2 fg_X11_363 dX11_run_25 (rfl : 25 + 3 = 28) (Nat.le_of_ble_eq_true rfl) rfl rfl ?_
    refine k_put 11 12 fp_X11_61 dX11_run_28 (rfl : 28 + 3 = 31) (Nat.le_of_ble_eq_true rfl) rfl (Nat.le_of_ble_eq_true rfl) rfl rfl ?_
    refine kf_C11 (v := (y1.2.1 5)) rfl ?_
    refine k_throwW th_X11_134_138 tx_X11_366 rfl dX11_run_31 dX11_run_34 dX11_run_35 dX11_run_38 dX11_run_41 (Nat.le_of_ble_eq_true rfl) (Nat.le_of_ble_eq_true rfl) ⟨(Nat.le_of_ble_eq_true rfl), (Nat.le_of_ble_eq_true rfl)⟩ (Nat.le_of_ble_eq_true rfl) (Nat.le_of_ble_eq_true rfl) ?_
    subst hg1
    exact kRo_of (Eq.symm (if_pos (show (f_X2_readCommands x ) = 0 from b17))) (congrArg (fun z => kTp (kHc z) r) (Eq.symm (if_pos (show (f_X2_readCommands x ) = 0 from b17))))
