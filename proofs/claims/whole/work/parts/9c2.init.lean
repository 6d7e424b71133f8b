set_option maxRecDepth 100000 in
set_option maxHeartbeats 4000000 in
theorem m_X6_init {h : kH} (h0 : h 28 = kO 6 [.null, .int 0, .int 0]) : kMet kX6_init true 73 520 [.ref 28] h 29 (kRt none (kU (putB (kU (kU (putB (kU (kU (putB (kU (kU (putB (kU (kU (putB (kU (kU (putB (kU (kU (putB (kU (kU (putB (kU (kU (kU h 29 (kRf 4 8 (fun _ => none))) 28 (kO 6 [.ref 29, .int 0, .int 0])) 30 (kO 9 [.null, .null, .null])) 30 9 (kBl 30 c00)) 29 (kRf 4 8 (va_up (fun _ => none) (Int32.toNatClampNeg 0) (some 30)))) 39 (kO 9 [.null, .null, .null])) 39 9 (kBl 39 c00)) 29 (kRf 4 8 (va_up (va_up (fun _ => none) (Int32.toNatClampNeg 0) (some 30)) (Int32.toNatClampNeg 1) (some 39)))) 48 (kO 9 [.null, .null, .null])) 48 9 (kBl 48 c00)) 29 (kRf 4 8 (va_up (va_up (va_up (fun _ => none) (Int32.toNatClampNeg 0) (some 30)) (Int32.toNatClampNeg 1) (some 39)) (Int32.toNatClampNeg 2) (some 48)))) 57 (kO 9 [.null, .null, .null])) 57 9 (kBl 57 c00)) 29 (kRf 4 8 (va_up (va_up (va_up (va_up (fun _ => none) (Int32.toNatClampNeg 0) (some 30)) (Int32.toNatClampNeg 1) (some 39)) (Int32.toNatClampNeg 2) (some 48)) (Int32.toNatClampNeg 3) (some 57)))) 66 (kO 9 [.null, .null, .null])) 66 9 (kBl 66 c00)) 29 (kRf 4 8 (va_up (va_up (va_up (va_up (va_up (fun _ => none) (Int32.toNatClampNeg 0) (some 30)) (Int32.toNatClampNeg 1) (some 39)) (Int32.toNatClampNeg 2) (some 48)) (Int32.toNatClampNeg 3) (some 57)) (Int32.toNatClampNeg 4) (some 66)))) 75 (kO 9 [.null, .null, .null])) 75 9 (kBl 75 c00)) 29 (kRf 4 8 (va_up (va_up (va_up (va_up (va_up (va_up (fun _ => none) (Int32.toNatClampNeg 0) (some 30)) (Int32.toNatClampNeg 1) (some 39)) (Int32.toNatClampNeg 2) (some 48)) (Int32.toNatClampNeg 3) (some 57)) (Int32.toNatClampNeg 4) (some 66)) (Int32.toNatClampNeg 5) (some 75)))) 84 (kO 9 [.null, .null, .null])) 84 9 (kBl 84 c00)) 29 (kRf 4 8 (va_up (va_up (va_up (va_up (va_up (va_up (va_up (fun _ => none) (Int32.toNatClampNeg 0) (some 30)) (Int32.toNatClampNeg 1) (some 39)) (Int32.toNatClampNeg 2) (some 48)) (Int32.toNatClampNeg 3) (some 57)) (Int32.toNatClampNeg 4) (some 66)) (Int32.toNatClampNeg 5) (some 75)) (Int32.toNatClampNeg 6) (some 84)))) 93 (kO 9 [.null, .null, .null])) 93 9 (kBl 93 c00)) 29 (kRf 4 8 (va_up (va_up (va_up (va_up (va_up (va_up (va_up (va_up (fun _ => none) (Int32.toNatClampNeg 0) (some 30)) (Int32.toNatClampNeg 1) (some 39)) (Int32.toNatClampNeg 2) (some 48)) (Int32.toNatClampNeg 3) (some 57)) (Int32.toNatClampNeg 4) (some 66)) (Int32.toNatClampNeg 5) (some 75)) (Int32.toNatClampNeg 6) (some 84)) (Int32.toNatClampNeg 7) (some 93)))) 102) := by
  refine kMet.in (by decide) rfl rfl _ rfl ?_
  refine k_aload_n (i := 0) dX6_init_0 (rfl : 0 + 1 = 1) rfl rfl ?_
  refine k_oinit (gm 265 (by decide +kernel) (by decide +kernel)) (gm 128 (by decide +kernel) (by decide +kernel)) (gm 129 (by decide +kernel) (by decide +kernel)) dX6_init_1 (rfl : 1 + 3 = 4) (Nat.le_of_ble_eq_true rfl) (Nat.le_of_ble_eq_true rfl) ?_
  refine k_aload_n (i := 0) dX6_init_4 (rfl : 4 + 1 = 5) rfl rfl ?_
  refine k_bipush (v := 8) dX6_init_5 (rfl : 5 + 2 = 7) (by decide) ?_
  refine k_newq (t := 4) (n := 8) (N' := 8) rfl (gm 266 (by decide +kernel) (by decide +kernel)) (gm2 267 (by decide +kernel) (by decide +kernel)) dX6_init_7 (rfl : 7 + 3 = 10) (by omega) (by decide) (by decide) (by decide) ⟨Nat.le_of_ble_eq_true rfl, Nat.le_of_ble_eq_true rfl⟩ ?_
  refine k_putF 6 0 fp_X6_11 rfl dX6_init_10 (rfl : 10 + 3 = 13) (by omega) (Eq.trans (kU_n (by omega)) h0) (Nat.le_of_ble_eq_true rfl) rfl rfl ?_
  refine k_iconst (v := 0) dX6_init_13 (rfl : 13 + 1 = 14) (by decide) ?_
  refine k_istore_n (i := 1) dX6_init_14 (rfl : 14 + 1 = 15) rfl (Nat.le_of_ble_eq_true rfl) ?_
  refine k_ls (ls2 := [.ref 28, .int 0]) rfl ?_
  refine k_iload_n (i := 1) dX6_init_15 (rfl : 15 + 1 = 16) rfl rfl ?_
  refine k_bipush (v := 8) dX6_init_16 (rfl : 16 + 2 = 18) (by decide) ?_
  refine k_icmp_ge (tgt := 40) dX6_init_18 (rfl : 18 + 3 = 21) (by decide) (fun b9 => by exact absurd b9 (by decide)) (fun b9 => ?_)
  refine k_aload_n (i := 0) dX6_init_21 (rfl : 21 + 1 = 22) rfl rfl ?_
  refine k_get 6 0 fg_X6_11 dX6_init_22 (rfl : 22 + 3 = 25) (by omega) kU_s rfl ?_
  refine k_iload_n (i := 1) dX6_init_25 (rfl : 25 + 1 = 26) rfl rfl ?_
  refine k_new nw_X6_9 dX6_init_26 (rfl : 26 + 3 = 29) (by omega) ⟨Nat.le_of_ble_eq_true rfl, Nat.le_of_ble_eq_true rfl⟩ ?_
  refine k_dup dX6_init_29 (rfl : 29 + 1 = 30) rfl ?_
  refine k_callINv0 cv_X6_17 ⟨Nat.le_of_ble_eq_true rfl, Nat.le_of_ble_eq_true rfl⟩ (m_X9_init (b := 30) (by omega) kU_s) dX6_init_30 (rfl : 30 + 3 = 33) rfl ⟨Nat.le_of_ble_eq_true rfl, Nat.le_of_ble_eq_true rfl⟩ ?_
  refine k_sast (f := (fun _ => none)) dX6_init_33 (rfl : 33 + 1 = 34) (by omega) (Eq.trans (putB_n (by omega)) (Eq.trans (kU_n (by omega)) (Eq.trans (kU_n (by omega)) kU_s))) (vp_in_iff.mpr (by decide)) (by omega) (putB_i (t := 0) (by omega)) ?_
  refine k_iinc (i := 1) (v := 1) dX6_init_34 (rfl : 34 + 3 = 37) rfl (Nat.le_of_ble_eq_true rfl) (by decide) ?_
  refine k_ls (ls2 := [.ref 28, .int 1]) rfl ?_
  refine k_goto (tgt := 15) dX6_init_37 (by decide) ?_
  refine k_iload_n (i := 1) dX6_init_15 (rfl : 15 + 1 = 16) rfl rfl ?_
  refine k_bipush (v := 8) dX6_init_16 (rfl : 16 + 2 = 18) (by decide) ?_
  refine k_icmp_ge (tgt := 40) dX6_init_18 (rfl : 18 + 3 = 21) (by decide) (fun b9 => by exact absurd b9 (by decide)) (fun b9 => ?_)
  refine k_aload_n (i := 0) dX6_init_21 (rfl : 21 + 1 = 22) rfl rfl ?_
  refine k_get 6 0 fg_X6_11 dX6_init_22 (rfl : 22 + 3 = 25) (by omega) (Eq.trans (kU_n (by omega)) (Eq.trans (putB_n (by omega)) (Eq.trans (kU_n (by omega)) kU_s))) rfl ?_
  refine k_iload_n (i := 1) dX6_init_25 (rfl : 25 + 1 = 26) rfl rfl ?_
  refine k_new nw_X6_9 dX6_init_26 (rfl : 26 + 3 = 29) (by omega) ⟨Nat.le_of_ble_eq_true rfl, Nat.le_of_ble_eq_true rfl⟩ ?_
  refine k_dup dX6_init_29 (rfl : 29 + 1 = 30) rfl ?_
  refine k_callINv0 cv_X6_17 ⟨Nat.le_of_ble_eq_true rfl, Nat.le_of_ble_eq_true rfl⟩ (m_X9_init (b := 39) (by omega) kU_s) dX6_init_30 (rfl : 30 + 3 = 33) rfl ⟨Nat.le_of_ble_eq_true rfl, Nat.le_of_ble_eq_true rfl⟩ ?_
  refine k_sast (f := (va_up (fun _ => none) (Int32.toNatClampNeg 0) (some 30))) dX6_init_33 (rfl : 33 + 1 = 34) (by omega) (Eq.trans (putB_n (by omega)) (Eq.trans (kU_n (by omega)) kU_s)) (vp_in_iff.mpr (by decide)) (by omega) (putB_i (t := 0) (by omega)) ?_
  refine k_iinc (i := 1) (v := 2) dX6_init_34 (rfl : 34 + 3 = 37) rfl (Nat.le_of_ble_eq_true rfl) (by decide) ?_
  refine k_ls (ls2 := [.ref 28, .int 2]) rfl ?_
  refine k_goto (tgt := 15) dX6_init_37 (by decide) ?_
  refine k_iload_n (i := 1) dX6_init_15 (rfl : 15 + 1 = 16) rfl rfl ?_
  refine k_bipush (v := 8) dX6_init_16 (rfl : 16 + 2 = 18) (by decide) ?_
  refine k_icmp_ge (tgt := 40) dX6_init_18 (rfl : 18 + 3 = 21) (by decide) (fun b9 => by exact absurd b9 (by decide)) (fun b9 => ?_)
  refine k_aload_n (i := 0) dX6_init_21 (rfl : 21 + 1 = 22) rfl rfl ?_
  refine k_get 6 0 fg_X6_11 dX6_init_22 (rfl : 22 + 3 = 25) (by omega) (Eq.trans (kU_n (by omega)) (Eq.trans (putB_n (by omega)) (Eq.trans (kU_n (by omega)) (Eq.trans (kU_n (by omega)) (Eq.trans (putB_n (by omega)) (Eq.trans (kU_n (by omega)) kU_s)))))) rfl ?_
  refine k_iload_n (i := 1) dX6_init_25 (rfl : 25 + 1 = 26) rfl rfl ?_
  refine k_new nw_X6_9 dX6_init_26 (rfl : 26 + 3 = 29) (by omega) ⟨Nat.le_of_ble_eq_true rfl, Nat.le_of_ble_eq_true rfl⟩ ?_
  refine k_dup dX6_init_29 (rfl : 29 + 1 = 30) rfl ?_
  refine k_callINv0 cv_X6_17 ⟨Nat.le_of_ble_eq_true rfl, Nat.le_of_ble_eq_true rfl⟩ (m_X9_init (b := 48) (by omega) kU_s) dX6_init_30 (rfl : 30 + 3 = 33) rfl ⟨Nat.le_of_ble_eq_true rfl, Nat.le_of_ble_eq_true rfl⟩ ?_
  refine k_sast (f := (va_up (va_up (fun _ => none) (Int32.toNatClampNeg 0) (some 30)) (Int32.toNatClampNeg 1) (some 39))) dX6_init_33 (rfl : 33 + 1 = 34) (by omega) (Eq.trans (putB_n (by omega)) (Eq.trans (kU_n (by omega)) kU_s)) (vp_in_iff.mpr (by decide)) (by omega) (putB_i (t := 0) (by omega)) ?_
  refine k_iinc (i := 1) (v := 3) dX6_init_34 (rfl : 34 + 3 = 37) rfl (Nat.le_of_ble_eq_true rfl) (by decide) ?_
  refine k_ls (ls2 := [.ref 28, .int 3]) rfl ?_
  refine k_goto (tgt := 15) dX6_init_37 (by decide) ?_
  refine k_iload_n (i := 1) dX6_init_15 (rfl : 15 + 1 = 16) rfl rfl ?_
  refine k_bipush (v := 8) dX6_init_16 (rfl : 16 + 2 = 18) (by decide) ?_
  refine k_icmp_ge (tgt := 40) dX6_init_18 (rfl : 18 + 3 = 21) (by decide) (fun b9 => by exact absurd b9 (by decide)) (fun b9 => ?_)
  refine k_aload_n (i := 0) dX6_init_21 (rfl : 21 + 1 = 22) rfl rfl ?_
  refine k_get 6 0 fg_X6_11 dX6_init_22 (rfl : 22 + 3 = 25) (by omega) (Eq.trans (kU_n (by omega)) (Eq.trans (putB_n (by omega)) (Eq.trans (kU_n (by omega)) (Eq.trans (kU_n (by omega)) (Eq.trans (putB_n (by omega)) (Eq.trans (kU_n (by omega)) (Eq.trans (kU_n (by omega)) (Eq.trans (putB_n (by omega)) (Eq.trans (kU_n (by omega)) kU_s))))))))) rfl ?_
  refine k_iload_n (i := 1) dX6_init_25 (rfl : 25 + 1 = 26) rfl rfl ?_
  refine k_new nw_X6_9 dX6_init_26 (rfl : 26 + 3 = 29) (by omega) ⟨Nat.le_of_ble_eq_true rfl, Nat.le_of_ble_eq_true rfl⟩ ?_
  refine k_dup dX6_init_29 (rfl : 29 + 1 = 30) rfl ?_
  refine k_callINv0 cv_X6_17 ⟨Nat.le_of_ble_eq_true rfl, Nat.le_of_ble_eq_true rfl⟩ (m_X9_init (b := 57) (by omega) kU_s) dX6_init_30 (rfl : 30 + 3 = 33) rfl ⟨Nat.le_of_ble_eq_true rfl, Nat.le_of_ble_eq_true rfl⟩ ?_
  refine k_sast (f := (va_up (va_up (va_up (fun _ => none) (Int32.toNatClampNeg 0) (some 30)) (Int32.toNatClampNeg 1) (some 39)) (Int32.toNatClampNeg 2) (some 48))) dX6_init_33 (rfl : 33 + 1 = 34) (by omega) (Eq.trans (putB_n (by omega)) (Eq.trans (kU_n (by omega)) kU_s)) (vp_in_iff.mpr (by decide)) (by omega) (putB_i (t := 0) (by omega)) ?_
  refine k_iinc (i := 1) (v := 4) dX6_init_34 (rfl : 34 + 3 = 37) rfl (Nat.le_of_ble_eq_true rfl) (by decide) ?_
  refine k_ls (ls2 := [.ref 28, .int 4]) rfl ?_
  refine k_goto (tgt := 15) dX6_init_37 (by decide) ?_
  refine k_iload_n (i := 1) dX6_init_15 (rfl : 15 + 1 = 16) rfl rfl ?_
  refine k_bipush (v := 8) dX6_init_16 (rfl : 16 + 2 = 18) (by decide) ?_
  refine k_icmp_ge (tgt := 40) dX6_init_18 (rfl : 18 + 3 = 21) (by decide) (fun b9 => by exact absurd b9 (by decide)) (fun b9 => ?_)
  refine k_aload_n (i := 0) dX6_init_21 (rfl : 21 + 1 = 22) rfl rfl ?_
  refine k_get 6 0 fg_X6_11 dX6_init_22 (rfl : 22 + 3 = 25) (by omega) (Eq.trans (kU_n (by omega)) (Eq.trans (putB_n (by omega)) (Eq.trans (kU_n (by omega)) (Eq.trans (kU_n (by omega)) (Eq.trans (putB_n (by omega)) (Eq.trans (kU_n (by omega)) (Eq.trans (kU_n (by omega)) (Eq.trans (putB_n (by omega)) (Eq.trans (kU_n (by omega)) (Eq.trans (kU_n (by omega)) (Eq.trans (putB_n (by omega)) (Eq.trans (kU_n (by omega)) kU_s)))))))))))) rfl ?_
  refine k_iload_n (i := 1) dX6_init_25 (rfl : 25 + 1 = 26) rfl rfl ?_
  refine k_new nw_X6_9 dX6_init_26 (rfl : 26 + 3 = 29) (by omega) ⟨Nat.le_of_ble_eq_true rfl, Nat.le_of_ble_eq_true rfl⟩ ?_
  refine k_dup dX6_init_29 (rfl : 29 + 1 = 30) rfl ?_
  refine k_callINv0 cv_X6_17 ⟨Nat.le_of_ble_eq_true rfl, Nat.le_of_ble_eq_true rfl⟩ (m_X9_init (b := 66) (by omega) kU_s) dX6_init_30 (rfl : 30 + 3 = 33) rfl ⟨Nat.le_of_ble_eq_true rfl, Nat.le_of_ble_eq_true rfl⟩ ?_
  refine k_sast (f := (va_up (va_up (va_up (va_up (fun _ => none) (Int32.toNatClampNeg 0) (some 30)) (Int32.toNatClampNeg 1) (some 39)) (Int32.toNatClampNeg 2) (some 48)) (Int32.toNatClampNeg 3) (some 57))) dX6_init_33 (rfl : 33 + 1 = 34) (by omega) (Eq.trans (putB_n (by omega)) (Eq.trans (kU_n (by omega)) kU_s)) (vp_in_iff.mpr (by decide)) (by omega) (putB_i (t := 0) (by omega)) ?_
  refine k_iinc (i := 1) (v := 5) dX6_init_34 (rfl : 34 + 3 = 37) rfl (Nat.le_of_ble_eq_true rfl) (by decide) ?_
  refine k_ls (ls2 := [.ref 28, .int 5]) rfl ?_
  refine k_goto (tgt := 15) dX6_init_37 (by decide) ?_
  refine k_iload_n (i := 1) dX6_init_15 (rfl : 15 + 1 = 16) rfl rfl ?_
  refine k_bipush (v := 8) dX6_init_16 (rfl : 16 + 2 = 18) (by decide) ?_
  refine k_icmp_ge (tgt := 40) dX6_init_18 (rfl : 18 + 3 = 21) (by decide) (fun b9 => by exact absurd b9 (by decide)) (fun b9 => ?_)
  refine k_aload_n (i := 0) dX6_init_21 (rfl : 21 + 1 = 22) rfl rfl ?_
  refine k_get 6 0 fg_X6_11 dX6_init_22 (rfl : 22 + 3 = 25) (by omega) (Eq.trans (kU_n (by omega)) (Eq.trans (putB_n (by omega)) (Eq.trans (kU_n (by omega)) (Eq.trans (kU_n (by omega)) (Eq.trans (putB_n (by omega)) (Eq.trans (kU_n (by omega)) (Eq.trans (kU_n (by omega)) (Eq.trans (putB_n (by omega)) (Eq.trans (kU_n (by omega)) (Eq.trans (kU_n (by omega)) (Eq.trans (putB_n (by omega)) (Eq.trans (kU_n (by omega)) (Eq.trans (kU_n (by omega)) (Eq.trans (putB_n (by omega)) (Eq.trans (kU_n (by omega)) kU_s))))))))))))))) rfl ?_
  refine k_iload_n (i := 1) dX6_init_25 (rfl : 25 + 1 = 26) rfl rfl ?_
  refine k_new nw_X6_9 dX6_init_26 (rfl : 26 + 3 = 29) (by omega) ⟨Nat.le_of_ble_eq_true rfl, Nat.le_of_ble_eq_true rfl⟩ ?_
  refine k_dup dX6_init_29 (rfl : 29 + 1 = 30) rfl ?_
  refine k_callINv0 cv_X6_17 ⟨Nat.le_of_ble_eq_true rfl, Nat.le_of_ble_eq_true rfl⟩ (m_X9_init (b := 75) (by omega) kU_s) dX6_init_30 (rfl : 30 + 3 = 33) rfl ⟨Nat.le_of_ble_eq_true rfl, Nat.le_of_ble_eq_true rfl⟩ ?_
  refine k_sast (f := (va_up (va_up (va_up (va_up (va_up (fun _ => none) (Int32.toNatClampNeg 0) (some 30)) (Int32.toNatClampNeg 1) (some 39)) (Int32.toNatClampNeg 2) (some 48)) (Int32.toNatClampNeg 3) (some 57)) (Int32.toNatClampNeg 4) (some 66))) dX6_init_33 (rfl : 33 + 1 = 34) (by omega) (Eq.trans (putB_n (by omega)) (Eq.trans (kU_n (by omega)) kU_s)) (vp_in_iff.mpr (by decide)) (by omega) (putB_i (t := 0) (by omega)) ?_
  refine k_iinc (i := 1) (v := 6) dX6_init_34 (rfl : 34 + 3 = 37) rfl (Nat.le_of_ble_eq_true rfl) (by decide) ?_
  refine k_ls (ls2 := [.ref 28, .int 6]) rfl ?_
  refine k_goto (tgt := 15) dX6_init_37 (by decide) ?_
  refine k_iload_n (i := 1) dX6_init_15 (rfl : 15 + 1 = 16) rfl rfl ?_
  refine k_bipush (v := 8) dX6_init_16 (rfl : 16 + 2 = 18) (by decide) ?_
  refine k_icmp_ge (tgt := 40) dX6_init_18 (rfl : 18 + 3 = 21) (by decide) (fun b9 => by exact absurd b9 (by decide)) (fun b9 => ?_)
  refine k_aload_n (i := 0) dX6_init_21 (rfl : 21 + 1 = 22) rfl rfl ?_
  refine k_get 6 0 fg_X6_11 dX6_init_22 (rfl : 22 + 3 = 25) (by omega) (Eq.trans (kU_n (by omega)) (Eq.trans (putB_n (by omega)) (Eq.trans (kU_n (by omega)) (Eq.trans (kU_n (by omega)) (Eq.trans (putB_n (by omega)) (Eq.trans (kU_n (by omega)) (Eq.trans (kU_n (by omega)) (Eq.trans (putB_n (by omega)) (Eq.trans (kU_n (by omega)) (Eq.trans (kU_n (by omega)) (Eq.trans (putB_n (by omega)) (Eq.trans (kU_n (by omega)) (Eq.trans (kU_n (by omega)) (Eq.trans (putB_n (by omega)) (Eq.trans (kU_n (by omega)) (Eq.trans (kU_n (by omega)) (Eq.trans (putB_n (by omega)) (Eq.trans (kU_n (by omega)) kU_s)))))))))))))))))) rfl ?_
  refine k_iload_n (i := 1) dX6_init_25 (rfl : 25 + 1 = 26) rfl rfl ?_
  refine k_new nw_X6_9 dX6_init_26 (rfl : 26 + 3 = 29) (by omega) ⟨Nat.le_of_ble_eq_true rfl, Nat.le_of_ble_eq_true rfl⟩ ?_
  refine k_dup dX6_init_29 (rfl : 29 + 1 = 30) rfl ?_
  refine k_callINv0 cv_X6_17 ⟨Nat.le_of_ble_eq_true rfl, Nat.le_of_ble_eq_true rfl⟩ (m_X9_init (b := 84) (by omega) kU_s) dX6_init_30 (rfl : 30 + 3 = 33) rfl ⟨Nat.le_of_ble_eq_true rfl, Nat.le_of_ble_eq_true rfl⟩ ?_
  refine k_sast (f := (va_up (va_up (va_up (va_up (va_up (va_up (fun _ => none) (Int32.toNatClampNeg 0) (some 30)) (Int32.toNatClampNeg 1) (some 39)) (Int32.toNatClampNeg 2) (some 48)) (Int32.toNatClampNeg 3) (some 57)) (Int32.toNatClampNeg 4) (some 66)) (Int32.toNatClampNeg 5) (some 75))) dX6_init_33 (rfl : 33 + 1 = 34) (by omega) (Eq.trans (putB_n (by omega)) (Eq.trans (kU_n (by omega)) kU_s)) (vp_in_iff.mpr (by decide)) (by omega) (putB_i (t := 0) (by omega)) ?_
  refine k_iinc (i := 1) (v := 7) dX6_init_34 (rfl : 34 + 3 = 37) rfl (Nat.le_of_ble_eq_true rfl) (by decide) ?_
  refine k_ls (ls2 := [.ref 28, .int 7]) rfl ?_
  refine k_goto (tgt := 15) dX6_init_37 (by decide) ?_
  refine k_iload_n (i := 1) dX6_init_15 (rfl : 15 + 1 = 16) rfl rfl ?_
  refine k_bipush (v := 8) dX6_init_16 (rfl : 16 + 2 = 18) (by decide) ?_
  refine k_icmp_ge (tgt := 40) dX6_init_18 (rfl : 18 + 3 = 21) (by decide) (fun b9 => by exact absurd b9 (by decide)) (fun b9 => ?_)
  refine k_aload_n (i := 0) dX6_init_21 (rfl : 21 + 1 = 22) rfl rfl ?_
  refine k_get 6 0 fg_X6_11 dX6_init_22 (rfl : 22 + 3 = 25) (by omega) (Eq.trans (kU_n (by omega)) (Eq.trans (putB_n (by omega)) (Eq.trans (kU_n (by omega)) (Eq.trans (kU_n (by omega)) (Eq.trans (putB_n (by omega)) (Eq.trans (kU_n (by omega)) (Eq.trans (kU_n (by omega)) (Eq.trans (putB_n (by omega)) (Eq.trans (kU_n (by omega)) (Eq.trans (kU_n (by omega)) (Eq.trans (putB_n (by omega)) (Eq.trans (kU_n (by omega)) (Eq.trans (kU_n (by omega)) (Eq.trans (putB_n (by omega)) (Eq.trans (kU_n (by omega)) (Eq.trans (kU_n (by omega)) (Eq.trans (putB_n (by omega)) (Eq.trans (kU_n (by omega)) (Eq.trans (kU_n (by omega)) (Eq.trans (putB_n (by omega)) (Eq.trans (kU_n (by omega)) kU_s))))))))))))))))))))) rfl ?_
  refine k_iload_n (i := 1) dX6_init_25 (rfl : 25 + 1 = 26) rfl rfl ?_
  refine k_new nw_X6_9 dX6_init_26 (rfl : 26 + 3 = 29) (by omega) ⟨Nat.le_of_ble_eq_true rfl, Nat.le_of_ble_eq_true rfl⟩ ?_
  refine k_dup dX6_init_29 (rfl : 29 + 1 = 30) rfl ?_
  refine k_callINv0 cv_X6_17 ⟨Nat.le_of_ble_eq_true rfl, Nat.le_of_ble_eq_true rfl⟩ (m_X9_init (b := 93) (by omega) kU_s) dX6_init_30 (rfl : 30 + 3 = 33) rfl ⟨Nat.le_of_ble_eq_true rfl, Nat.le_of_ble_eq_true rfl⟩ ?_
  refine k_sast (f := (va_up (va_up (va_up (va_up (va_up (va_up (va_up (fun _ => none) (Int32.toNatClampNeg 0) (some 30)) (Int32.toNatClampNeg 1) (some 39)) (Int32.toNatClampNeg 2) (some 48)) (Int32.toNatClampNeg 3) (some 57)) (Int32.toNatClampNeg 4) (some 66)) (Int32.toNatClampNeg 5) (some 75)) (Int32.toNatClampNeg 6) (some 84))) dX6_init_33 (rfl : 33 + 1 = 34) (by omega) (Eq.trans (putB_n (by omega)) (Eq.trans (kU_n (by omega)) kU_s)) (vp_in_iff.mpr (by decide)) (by omega) (putB_i (t := 0) (by omega)) ?_
  refine k_iinc (i := 1) (v := 8) dX6_init_34 (rfl : 34 + 3 = 37) rfl (Nat.le_of_ble_eq_true rfl) (by decide) ?_
  refine k_ls (ls2 := [.ref 28, .int 8]) rfl ?_
  refine k_goto (tgt := 15) dX6_init_37 (by decide) ?_
  refine k_iload_n (i := 1) dX6_init_15 (rfl : 15 + 1 = 16) rfl rfl ?_
  refine k_bipush (v := 8) dX6_init_16 (rfl : 16 + 2 = 18) (by decide) ?_
  refine k_icmp_ge (tgt := 40) dX6_init_18 (rfl : 18 + 3 = 21) (by decide) (fun b9 => ?_) (fun b9 => by exact absurd (by decide) b9)
  refine k_vret rfl dX6_init_40 (Nat.le_of_ble_eq_true rfl) (Nat.le_of_ble_eq_true rfl) ?_
  exact kRt_rfl
