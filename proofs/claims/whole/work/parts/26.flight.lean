def f_X11_neighbour (a1 : Int32) (a2 : Int32) : Int32 := ((8 * (((a1 >>> ((3 : Int32) &&& 31)) + (kStepY.getD (Int32.toNatClampNeg (a2 &&& 7)) 0)) &&& 7)) + ((a1 + (kStepX.getD (Int32.toNatClampNeg (a2 &&& 7)) 0)) &&& 7))
set_option maxRecDepth 100000 in
set_option maxHeartbeats 4000000 in
theorem m_X11_neighbour {h : kH} {N : Nat} {a1 : Int32} {a2 : Int32} : kMet kX11_neighbour false 0 0 [.int a1, .int a2] h N (kRt (some (.int (f_X11_neighbour a1 a2))) h N) := by
  refine kMet.in (by decide) rfl rfl _ rfl ?_
  refine k_iload_n (i := 0) dX11_neighbour_0 (rfl : 0 + 1 = 1) rfl rfl ?_
  refine k_gets (Cn := "BoomerangCourt") (n := "STEP_X") (d := "[I") (id9 := 1000) (by decide) (gm 642 (by decide +kernel) (by decide +kernel)) dX11_neighbour_1 (rfl : 1 + 3 = 4) ?_
  refine k_iload_n (i := 1) dX11_neighbour_4 (rfl : 4 + 1 = 5) rfl rfl ?_
  refine k_bipush (v := 7) dX11_neighbour_5 (rfl : 5 + 2 = 7) (by decide) ?_
  refine k_iand dX11_neighbour_7 (rfl : 7 + 1 = 8) ?_
  refine k_sald (id9 := 1000) (vs := kStepX) (by decide) dX11_neighbour_8 (rfl : 8 + 1 = 9) (pk_andIn a2 3 (by decide) (by decide)) ?_
  refine k_iadd dX11_neighbour_9 (rfl : 9 + 1 = 10) ?_
  refine k_bipush (v := 7) dX11_neighbour_10 (rfl : 10 + 2 = 12) (by decide) ?_
  refine k_iand dX11_neighbour_12 (rfl : 12 + 1 = 13) ?_
  refine k_istore_n (i := 2) dX11_neighbour_13 (rfl : 13 + 1 = 14) rfl (Nat.le_of_ble_eq_true rfl) ?_
  refine k_ls (ls2 := [.int a1, .int a2, .int ((a1 + (kStepX.getD (Int32.toNatClampNeg (a2 &&& 7)) 0)) &&& 7), .retAddr 0]) rfl ?_
  refine k_iload_n (i := 0) dX11_neighbour_14 (rfl : 14 + 1 = 15) rfl rfl ?_
  refine k_iconst (v := 3) dX11_neighbour_15 (rfl : 15 + 1 = 16) (by decide) ?_
  refine k_ishr dX11_neighbour_16 (rfl : 16 + 1 = 17) ?_
  refine k_gets (Cn := "BoomerangCourt") (n := "STEP_Y") (d := "[I") (id9 := 1001) (by decide) (gm 644 (by decide +kernel) (by decide +kernel)) dX11_neighbour_17 (rfl : 17 + 3 = 20) ?_
  refine k_iload_n (i := 1) dX11_neighbour_20 (rfl : 20 + 1 = 21) rfl rfl ?_
  refine k_bipush (v := 7) dX11_neighbour_21 (rfl : 21 + 2 = 23) (by decide) ?_
  refine k_iand dX11_neighbour_23 (rfl : 23 + 1 = 24) ?_
  refine k_sald (id9 := 1001) (vs := kStepY) (by decide) dX11_neighbour_24 (rfl : 24 + 1 = 25) (pk_andIn a2 3 (by decide) (by decide)) ?_
  refine k_iadd dX11_neighbour_25 (rfl : 25 + 1 = 26) ?_
  refine k_bipush (v := 7) dX11_neighbour_26 (rfl : 26 + 2 = 28) (by decide) ?_
  refine k_iand dX11_neighbour_28 (rfl : 28 + 1 = 29) ?_
  refine k_istore_n (i := 3) dX11_neighbour_29 (rfl : 29 + 1 = 30) rfl (Nat.le_of_ble_eq_true rfl) ?_
  refine k_ls (ls2 := [.int a1, .int a2, .int ((a1 + (kStepX.getD (Int32.toNatClampNeg (a2 &&& 7)) 0)) &&& 7), .int (((a1 >>> ((3 : Int32) &&& 31)) + (kStepY.getD (Int32.toNatClampNeg (a2 &&& 7)) 0)) &&& 7)]) rfl ?_
  refine k_bipush (v := 8) dX11_neighbour_30 (rfl : 30 + 2 = 32) (by decide) ?_
  refine k_iload_n (i := 3) dX11_neighbour_32 (rfl : 32 + 1 = 33) rfl rfl ?_
  refine k_imul dX11_neighbour_33 (rfl : 33 + 1 = 34) ?_
  refine k_iload_n (i := 2) dX11_neighbour_34 (rfl : 34 + 1 = 35) rfl rfl ?_
  refine k_iadd dX11_neighbour_35 (rfl : 35 + 1 = 36) ?_
  refine k_iret rfl rfl dX11_neighbour_36 (Nat.le_of_ble_eq_true rfl) (Nat.le_of_ble_eq_true rfl) ?_
  exact kRt_of rfl rfl
/-- the flight's length is in its rows -/
def kFl (x : kK) : Prop := ∃ L : Nat, L ≤ 35 ∧ x.2.1 2 = nI L
theorem kFl_in {x : kK} (hf : kFl x) : vp_in (x.2.1 2) 36 := by
  obtain ⟨L, h1, h2⟩ := hf
  rw [h2]
  exact vp_in_nI (by omega) (by omega)
theorem kFl_up {x : kK} (hf : kFl x) (h : x.2.1 2 < 35) : ∃ L : Nat, L < 35 ∧ x.2.1 2 = nI L := by
  obtain ⟨L, h1, h2⟩ := hf
  rw [h2] at h
  exact ⟨L, (nI_ltI (b := 35) (by omega) (by decide)).mp h, h2⟩
theorem kFl_in1 {x : kK} (hf : kFl x) (h : x.2.1 2 < 35) : vp_in (x.2.1 2 + 1) 36 := by
  obtain ⟨L, h1, h2⟩ := kFl_up hf h
  rw [h2, nI_1]
  exact vp_in_nI (by omega) (by omega)
def f_X4_step (x : kK) (a2 : Int32) : Int32 := if (b2i (bitA (x.1 0).1 (f_X11_neighbour ((x.2.2.1 0) (Int32.toNatClampNeg (x.2.1 2))) a2))) = 0 then (if (x.2.1 2) < 35 then 1 else 0) else 0
def g_X4_step (x : kK) (a2 : Int32) : kK := if (b2i (bitA (x.1 0).1 (f_X11_neighbour ((x.2.2.1 0) (Int32.toNatClampNeg (x.2.1 2))) a2))) = 0 then (if (x.2.1 2) < 35 then (kkR (kkS x 2 ((x.2.1 2) + 1)) 0 (upd (x.2.2.1 0) (Int32.toNatClampNeg ((x.2.1 2) + 1)) (f_X11_neighbour ((x.2.2.1 0) (Int32.toNatClampNeg (x.2.1 2))) a2))) else x) else x
set_option maxRecDepth 100000 in
set_option maxHeartbeats 4000000 in
theorem m_X4_step {x : kK} {r : kH} {a2 : Int32} (hf : kFl x) : kMet kX4_step false 0 0 [.ref 102, .ref 2, .int a2] (kTp (kHc x) r) 130 (kRt (some (.int (f_X4_step x a2))) (kTp (kHc (g_X4_step x a2)) r) 130) := by
  refine kMet.in (by decide) rfl rfl _ rfl ?_
  refine k_aload_n (i := 0) dX4_step_0 (rfl : 0 + 1 = 1) rfl rfl ?_
  refine k_get 4 0 fg_X4_9 dX4_step_1 (rfl : 1 + 3 = 4) (Nat.le_of_ble_eq_true rfl) rfl rfl ?_
  refine k_aload_n (i := 0) dX4_step_4 (rfl : 4 + 1 = 5) rfl rfl ?_
  refine k_get 4 1 fg_X4_21 dX4_step_5 (rfl : 5 + 3 = 8) (Nat.le_of_ble_eq_true rfl) rfl rfl ?_
  refine k_iald dX4_step_8 (rfl : 8 + 1 = 9) (Nat.le_of_ble_eq_true rfl) rfl (kFl_in hf) ?_
  refine k_iload_n (i := 2) dX4_step_9 (rfl : 9 + 1 = 10) rfl rfl ?_
  refine k_callSNd2 cv_X4_42 ⟨Nat.le_of_ble_eq_true rfl, Nat.le_of_ble_eq_true rfl⟩ (m_X11_neighbour) dX4_step_10 (rfl : 10 + 3 = 13) rfl ⟨Nat.le_of_ble_eq_true rfl, Nat.le_of_ble_eq_true rfl⟩ ?_
  refine k_istore_n (i := 3) dX4_step_13 (rfl : 13 + 1 = 14) rfl (Nat.le_of_ble_eq_true rfl) ?_
  refine k_ls (ls2 := [.ref 102, .ref 2, .int a2, .int (f_X11_neighbour ((x.2.2.1 0) (Int32.toNatClampNeg (x.2.1 2))) a2)]) rfl ?_
  refine k_aload_n (i := 1) dX4_step_14 (rfl : 14 + 1 = 15) rfl rfl ?_
  refine k_iload_n (i := 3) dX4_step_15 (rfl : 15 + 1 = 16) rfl rfl ?_
  refine k_callVd1 cv_X4_46 ⟨Nat.le_of_ble_eq_true rfl, Nat.le_of_ble_eq_true rfl⟩ (m_X10_hasTree) dX4_step_16 (rfl : 16 + 3 = 19) (Nat.le_of_ble_eq_true rfl) rfl rfl rfl ⟨Nat.le_of_ble_eq_true rfl, Nat.le_of_ble_eq_true rfl⟩ ?_
  refine k_if_ne (tgt := 31) dX4_step_19 (rfl : 19 + 3 = 22) (by decide) (fun b19 => ?_) (fun b19 => ?_)
  · refine k_iconst (v := 0) dX4_step_31 (rfl : 31 + 1 = 32) (by decide) ?_
    refine k_iret rfl rfl dX4_step_32 (Nat.le_of_ble_eq_true rfl) (Nat.le_of_ble_eq_true rfl) ?_
    exact kRt_of (congrArg (fun z => some (Value.int z)) (Eq.symm (if_neg (show ¬ ((b2i (bitA (x.1 0).1 (f_X11_neighbour ((x.2.2.1 0) (Int32.toNatClampNeg (x.2.1 2))) a2))) = 0) from b19)))) (congrArg (fun z => kTp (kHc z) r) (Eq.symm (if_neg (show ¬ ((b2i (bitA (x.1 0).1 (f_X11_neighbour ((x.2.2.1 0) (Int32.toNatClampNeg (x.2.1 2))) a2))) = 0) from b19))))
  · refine k_aload_n (i := 0) dX4_step_22 (rfl : 22 + 1 = 23) rfl rfl ?_
    refine k_get 4 1 fg_X4_21 dX4_step_23 (rfl : 23 + 3 = 26) (Nat.le_of_ble_eq_true rfl) rfl rfl ?_
    refine k_bipush (v := 35) dX4_step_26 (rfl : 26 + 2 = 28) (by decide) ?_
    refine k_icmp_lt (tgt := 33) dX4_step_28 (rfl : 28 + 3 = 31) (by decide) (fun b28 => ?_) (fun b28 => ?_)
    · refine k_aload_n (i := 0) dX4_step_33 (rfl : 33 + 1 = 34) rfl rfl ?_
      refine k_dup dX4_step_34 (rfl : 34 + 1 = 35) rfl ?_
      refine k_get 4 1 fg_X4_21 dX4_step_35 (rfl : 35 + 3 = 38) (Nat.le_of_ble_eq_true rfl) rfl rfl ?_
      refine k_iconst (v := 1) dX4_step_38 (rfl : 38 + 1 = 39) (by decide) ?_
      refine k_iadd dX4_step_39 (rfl : 39 + 1 = 40) ?_
      refine k_put 4 1 fp_X4_21 dX4_step_40 (rfl : 40 + 3 = 43) (Nat.le_of_ble_eq_true rfl) rfl (Nat.le_of_ble_eq_true rfl) rfl rfl ?_
      refine kf_C2 (v := ((x.2.1 2) + 1)) rfl ?_
      refine k_aload_n (i := 0) dX4_step_43 (rfl : 43 + 1 = 44) rfl rfl ?_
      refine k_get 4 0 fg_X4_9 dX4_step_44 (rfl : 44 + 3 = 47) (Nat.le_of_ble_eq_true rfl) rfl rfl ?_
      refine k_aload_n (i := 0) dX4_step_47 (rfl : 47 + 1 = 48) rfl rfl ?_
      refine k_get 4 1 fg_X4_21 dX4_step_48 (rfl : 48 + 3 = 51) (Nat.le_of_ble_eq_true rfl) rfl rfl ?_
      refine k_iload_n (i := 3) dX4_step_51 (rfl : 51 + 1 = 52) rfl rfl ?_
      refine k_iast dX4_step_52 (rfl : 52 + 1 = 53) (Nat.le_of_ble_eq_true rfl) rfl (kFl_in1 hf b28) ?_
      refine kf_X0 (f := (upd (x.2.2.1 0) (Int32.toNatClampNeg ((x.2.1 2) + 1)) (f_X11_neighbour ((x.2.2.1 0) (Int32.toNatClampNeg (x.2.1 2))) a2))) rfl ?_
      refine k_iconst (v := 1) dX4_step_53 (rfl : 53 + 1 = 54) (by decide) ?_
      refine k_iret rfl rfl dX4_step_54 (Nat.le_of_ble_eq_true rfl) (Nat.le_of_ble_eq_true rfl) ?_
      exact kRt_of (congrArg (fun z => some (Value.int z)) (Eq.symm (Eq.trans (if_pos (show (b2i (bitA (x.1 0).1 (f_X11_neighbour ((x.2.2.1 0) (Int32.toNatClampNeg (x.2.1 2))) a2))) = 0 from b19)) (if_pos (show (x.2.1 2) < 35 from b28))))) (congrArg (fun z => kTp (kHc z) r) (Eq.symm (Eq.trans (if_pos (show (b2i (bitA (x.1 0).1 (f_X11_neighbour ((x.2.2.1 0) (Int32.toNatClampNeg (x.2.1 2))) a2))) = 0 from b19)) (if_pos (show (x.2.1 2) < 35 from b28)))))
    · refine k_iconst (v := 0) dX4_step_31 (rfl : 31 + 1 = 32) (by decide) ?_
      refine k_iret rfl rfl dX4_step_32 (Nat.le_of_ble_eq_true rfl) (Nat.le_of_ble_eq_true rfl) ?_
      exact kRt_of (congrArg (fun z => some (Value.int z)) (Eq.symm (Eq.trans (if_pos (show (b2i (bitA (x.1 0).1 (f_X11_neighbour ((x.2.2.1 0) (Int32.toNatClampNeg (x.2.1 2))) a2))) = 0 from b19)) (if_neg (show ¬ ((x.2.1 2) < 35) from b28))))) (congrArg (fun z => kTp (kHc z) r) (Eq.symm (Eq.trans (if_pos (show (b2i (bitA (x.1 0).1 (f_X11_neighbour ((x.2.2.1 0) (Int32.toNatClampNeg (x.2.1 2))) a2))) = 0 from b19)) (if_neg (show ¬ ((x.2.1 2) < 35) from b28)))))
theorem step_fl {x : kK} {d : Int32} (hf : kFl x) : kFl (g_X4_step x d) := by
  unfold g_X4_step
  split
  · split
    · rename_i h
      obtain ⟨L, h1, h2⟩ := kFl_up hf h
      refine ⟨L + 1, by omega, ?_⟩
      show x.2.1 2 + 1 = nI (L + 1)
      rw [h2, nI_1]
    · exact hf
  · exact hf
theorem step_core {x : kK} {d : Int32} : (g_X4_step x d).1 = x.1 := by
  unfold g_X4_step
  split
  · split <;> rfl
  · rfl
/-- the first of the k places from j on where f is c; else -1 -/
def pFind1 (f : Nat → Int32) (c : Int32) (k j : Nat) : Int32 := pFind f c k j
set_option maxRecDepth 100000 in
set_option maxHeartbeats 4000000 in
theorem l_X4_stepsTo {x : kK} {r : kH} {c : Int32} {n : Nat} (hn : n ≤ 35) (en : x.2.1 2 = nI n) : ∀ k (j : Nat), j + k = n + 1 →  kEv kX4_stepsTo (kRm kX4_stepsTo 0 0) (kFm false 0 0 (kRt (some (.int (pFind (x.2.2.1 0) c k j))) (kTp (kHc x) r) 130)) false 2 [.ref 102, .int c, .int (nI j)] [] (kTp (kHc x) r) 130 0 0 := by
  intro k
  induction k with
  | zero =>
    intro j hj
    refine k_iload_n (i := 2) dX4_stepsTo_2 (rfl : 2 + 1 = 3) rfl rfl ?_
    refine k_aload_n (i := 0) dX4_stepsTo_3 (rfl : 3 + 1 = 4) rfl rfl ?_
    refine k_get 4 1 fg_X4_21 dX4_stepsTo_4 (rfl : 4 + 3 = 7) (Nat.le_of_ble_eq_true rfl) rfl rfl ?_
    refine k_icmp_gt (tgt := 28) dX4_stepsTo_7 (rfl : 7 + 3 = 10) (by decide) (fun b7 => ?_) (fun b7 => by exact absurd (by rw [en]; exact nI_lt (a := n) (b := j) (by omega) (by omega)) b7)
    refine k_iconst (v := (-1)) dX4_stepsTo_28 (rfl : 28 + 1 = 29) (by decide) ?_
    refine k_iret rfl rfl dX4_stepsTo_29 (Nat.le_of_ble_eq_true rfl) (Nat.le_of_ble_eq_true rfl) ?_
    exact kRt_rfl
  | succ k ih =>
    intro j hj
    refine k_iload_n (i := 2) dX4_stepsTo_2 (rfl : 2 + 1 = 3) rfl rfl ?_
    refine k_aload_n (i := 0) dX4_stepsTo_3 (rfl : 3 + 1 = 4) rfl rfl ?_
    refine k_get 4 1 fg_X4_21 dX4_stepsTo_4 (rfl : 4 + 3 = 7) (Nat.le_of_ble_eq_true rfl) rfl rfl ?_
    refine k_icmp_gt (tgt := 28) dX4_stepsTo_7 (rfl : 7 + 3 = 10) (by decide) (fun b7 => by exact absurd (by rw [en] at b7; exact b7) (nI_nlt (a := n) (b := j) (by omega) (by omega))) (fun b7 => ?_)
    refine k_aload_n (i := 0) dX4_stepsTo_10 (rfl : 10 + 1 = 11) rfl rfl ?_
    refine k_get 4 0 fg_X4_9 dX4_stepsTo_11 (rfl : 11 + 3 = 14) (Nat.le_of_ble_eq_true rfl) rfl rfl ?_
    refine k_iload_n (i := 2) dX4_stepsTo_14 (rfl : 14 + 1 = 15) rfl rfl ?_
    refine k_iald dX4_stepsTo_15 (rfl : 15 + 1 = 16) (Nat.le_of_ble_eq_true rfl) rfl (vp_in_nI (by omega) (by omega)) ?_
    refine k_iload_n (i := 1) dX4_stepsTo_16 (rfl : 16 + 1 = 17) rfl rfl ?_
    refine k_icmp_ne (tgt := 22) dX4_stepsTo_17 (rfl : 17 + 3 = 20) (by decide) (fun b17 => ?_) (fun b17 => ?_)
    · refine k_iinc (i := 2) (v := (nI (j + 1))) dX4_stepsTo_22 (rfl : 22 + 3 = 25) rfl (Nat.le_of_ble_eq_true rfl) (nI_1 _) ?_
      refine k_ls (ls2 := [.ref 102, .int c, .int (nI (j + 1))]) rfl ?_
      refine k_goto (tgt := 2) dX4_stepsTo_25 (by decide) ?_
      refine Eq.mp ?_ (ih (j + 1) (by omega))
      rw [pFind, if_neg (by rw [nI_clamp (by omega)] at b17; exact b17)]
    · refine k_iload_n (i := 2) dX4_stepsTo_20 (rfl : 20 + 1 = 21) rfl rfl ?_
      refine k_iret rfl rfl dX4_stepsTo_21 (Nat.le_of_ble_eq_true rfl) (Nat.le_of_ble_eq_true rfl) ?_
      refine kRt_of (kRi ?_) rfl
      rw [pFind, if_pos]
      exact (by rw [nI_clamp (by omega)] at b17; exact b17)
set_option maxRecDepth 100000 in
set_option maxHeartbeats 4000000 in
theorem m_X4_stepsTo {x : kK} {r : kH} (hf : kFl x) {c : Int32} : kMet kX4_stepsTo false 0 0 [.ref 102, .int c] (kTp (kHc x) r) 130 (kRt (some (.int (pFind (x.2.2.1 0) c (x.2.1 2).toNatClampNeg 1))) (kTp (kHc x) r) 130) := by
  refine kMet.in (by decide) rfl rfl _ rfl ?_
  refine k_iconst (v := 1) dX4_stepsTo_0 (rfl : 0 + 1 = 1) (by decide) ?_
  refine k_istore_n (i := 2) dX4_stepsTo_1 (rfl : 1 + 1 = 2) rfl (Nat.le_of_ble_eq_true rfl) ?_
  obtain ⟨n, hn, en⟩ := hf
  rw [en, nI_clamp (by omega)]
  exact l_X4_stepsTo hn en n 1 (by omega)
def ecL (f : Nat → Int32) : Nat → Nat → Int64 → Int64
  | 0, _, s => s
  | k + 1, j, s => ecL f k (j + 1) (s ||| (1 <<< (Int32.toInt64 (f j) &&& 63)))
set_option maxRecDepth 100000 in
set_option maxHeartbeats 4000000 in
theorem l_X4_enteredCells {x : kK} {r : kH} {n : Nat} (hn : n ≤ 35) (en : x.2.1 2 = nI n) : ∀ k (j : Nat) (s : Int64), j + k = n + 1 →  kEv kX4_enteredCells (kRm kX4_enteredCells 0 0) (kFm false 0 0 (kRt (some (.long (ecL (x.2.2.1 0) k j s))) (kTp (kHc x) r) 130)) false 4 [.ref 102, .long s, .retAddr 0, .int (nI j)] [] (kTp (kHc x) r) 130 0 0 := by
  intro k
  induction k with
  | zero =>
    intro j s hj
    refine k_iload_n (i := 3) dX4_enteredCells_4 (rfl : 4 + 1 = 5) rfl rfl ?_
    refine k_aload_n (i := 0) dX4_enteredCells_5 (rfl : 5 + 1 = 6) rfl rfl ?_
    refine k_get 4 1 fg_X4_21 dX4_enteredCells_6 (rfl : 6 + 3 = 9) (Nat.le_of_ble_eq_true rfl) rfl rfl ?_
    refine k_icmp_gt (tgt := 29) dX4_enteredCells_9 (rfl : 9 + 3 = 12) (by decide) (fun b9 => ?_) (fun b9 => by exact absurd (by rw [en]; exact nI_lt (a := n) (b := j) (by omega) (by omega)) b9)
    refine k_lload_n (i := 1) dX4_enteredCells_29 (rfl : 29 + 1 = 30) rfl rfl ?_
    refine k_lret rfl dX4_enteredCells_30 (Nat.le_of_ble_eq_true rfl) (Nat.le_of_ble_eq_true rfl) ?_
    exact kRt_rfl
  | succ k ih =>
    intro j s hj
    refine k_iload_n (i := 3) dX4_enteredCells_4 (rfl : 4 + 1 = 5) rfl rfl ?_
    refine k_aload_n (i := 0) dX4_enteredCells_5 (rfl : 5 + 1 = 6) rfl rfl ?_
    refine k_get 4 1 fg_X4_21 dX4_enteredCells_6 (rfl : 6 + 3 = 9) (Nat.le_of_ble_eq_true rfl) rfl rfl ?_
    refine k_icmp_gt (tgt := 29) dX4_enteredCells_9 (rfl : 9 + 3 = 12) (by decide) (fun b9 => by exact absurd (by rw [en] at b9; exact b9) (nI_nlt (a := n) (b := j) (by omega) (by omega))) (fun b9 => ?_)
    refine k_lload_n (i := 1) dX4_enteredCells_12 (rfl : 12 + 1 = 13) rfl rfl ?_
    refine k_lconst (v := 1) dX4_enteredCells_13 (rfl : 13 + 1 = 14) (by decide) ?_
    refine k_aload_n (i := 0) dX4_enteredCells_14 (rfl : 14 + 1 = 15) rfl rfl ?_
    refine k_get 4 0 fg_X4_9 dX4_enteredCells_15 (rfl : 15 + 3 = 18) (Nat.le_of_ble_eq_true rfl) rfl rfl ?_
    refine k_iload_n (i := 3) dX4_enteredCells_18 (rfl : 18 + 1 = 19) rfl rfl ?_
    refine k_iald dX4_enteredCells_19 (rfl : 19 + 1 = 20) (Nat.le_of_ble_eq_true rfl) rfl (vp_in_nI (by omega) (by omega)) ?_
    refine k_lshl dX4_enteredCells_20 (rfl : 20 + 1 = 21) ?_
    refine k_lor dX4_enteredCells_21 (rfl : 21 + 1 = 22) ?_
    refine k_lstore_n (i := 1) dX4_enteredCells_22 (rfl : 22 + 1 = 23) rfl (Nat.le_of_ble_eq_true rfl) ?_
    refine k_ls (ls2 := [.ref 102, .long (s ||| (1 <<< (Int32.toInt64 ((x.2.2.1 0) (Int32.toNatClampNeg (nI j))) &&& 63))), .retAddr 0, .int (nI j)]) rfl ?_
    refine k_iinc (i := 3) (v := (nI (j + 1))) dX4_enteredCells_23 (rfl : 23 + 3 = 26) rfl (Nat.le_of_ble_eq_true rfl) (nI_1 _) ?_
    refine k_ls (ls2 := [.ref 102, .long (s ||| (1 <<< (Int32.toInt64 ((x.2.2.1 0) (Int32.toNatClampNeg (nI j))) &&& 63))), .retAddr 0, .int (nI (j + 1))]) rfl ?_
    refine k_goto (tgt := 4) dX4_enteredCells_26 (by decide) ?_
    rw [nI_clamp (by omega)]
    exact ih (j + 1) _ (by omega)
set_option maxRecDepth 100000 in
set_option maxHeartbeats 4000000 in
theorem m_X4_enteredCells {x : kK} {r : kH} (hf : kFl x) : kMet kX4_enteredCells false 0 0 [.ref 102] (kTp (kHc x) r) 130 (kRt (some (.long (ecL (x.2.2.1 0) (x.2.1 2).toNatClampNeg 1 0))) (kTp (kHc x) r) 130) := by
  refine kMet.in (by decide) rfl rfl _ rfl ?_
  refine k_lconst (v := 0) dX4_enteredCells_0 (rfl : 0 + 1 = 1) (by decide) ?_
  refine k_lstore_n (i := 1) dX4_enteredCells_1 (rfl : 1 + 1 = 2) rfl (Nat.le_of_ble_eq_true rfl) ?_
  refine k_iconst (v := 1) dX4_enteredCells_2 (rfl : 2 + 1 = 3) (by decide) ?_
  refine k_istore_n (i := 3) dX4_enteredCells_3 (rfl : 3 + 1 = 4) rfl (Nat.le_of_ble_eq_true rfl) ?_
  obtain ⟨n, hn, en⟩ := hf
  rw [en, nI_clamp (by omega)]
  exact l_X4_enteredCells hn en n 1 0 (by omega)
/-- one arm: k steps in the direction d, while it flies -/
def flA (d : Int32) : Nat → kK → Int32 → kK × Int32
  | 0, x, f => (x, f)
  | k + 1, x, f => if f = 0 then (x, f) else flA d k (g_X4_step x d) (f_X4_step x d)
/-- the wind behind the part number j -/
def flW (j : Nat) (y : kK × Int32) : kK × Int32 := if y.2 = 0 then y else if (y.1.1 0).2.1 2 ≤ nI j then y else (g_X4_step y.1 ((y.1.1 0).2.1 1), f_X4_step y.1 ((y.1.1 0).2.1 1))
def flP (arm : Nat) (turn : Int32) : Nat → Nat → Int32 → kK × Int32 → kK × Int32
  | 0, _, _, y => y
  | k + 1, j, d, y => if y.2 = 0 then y else flP arm turn k (j + 1) (d + turn - (d + turn) / 8 * 8) (flW j (flA d arm y.1 y.2))
def fly0 (x : kK) (a : Int32) : kK × Int32 := flP (f_X11_armOf a).toNatClampNeg (if 32 ≤ a then 7 else 1) 8 0 (a - a / 8 * 8) (kkS (kkR x 0 (upd (x.2.2.1 0) 0 ((x.1 0).2.1 0))) 2 0, 1)
def flE (y : kK × Int32) : kK := kkS y.1 3 (if y.2 = 0 then 116 else if (y.1.2.2.1 0) (y.1.2.1 2).toNatClampNeg = (y.1.1 0).2.1 0 then 99 else 103)
def g_X4_fly (x : kK) (a : Int32) : kK := flE (fly0 x a)
theorem flA_ok {d : Int32} {k : Nat} : ∀ {x : kK} {f : Int32}, kFl x → kFl (flA d k x f).1 ∧ (flA d k x f).1.1 = x.1 := by
  induction k with
  | zero => intro x f h; exact ⟨h, rfl⟩
  | succ k ih =>
    intro x f h
    rw [flA]
    split
    · exact ⟨h, rfl⟩
    · obtain ⟨h1, h2⟩ := ih (x := g_X4_step x d) (f := f_X4_step x d) (step_fl h)
      exact ⟨h1, h2.trans step_core⟩
theorem flW_ok {j : Nat} {y : kK × Int32} (h : kFl y.1) : kFl (flW j y).1 ∧ (flW j y).1.1 = y.1.1 := by
  unfold flW
  split
  · exact ⟨h, rfl⟩
  · split
    · exact ⟨h, rfl⟩
    · exact ⟨step_fl h, step_core⟩
theorem flP_ok {arm : Nat} {turn : Int32} {k : Nat} : ∀ {j : Nat} {d : Int32} {y : kK × Int32}, kFl y.1 → kFl (flP arm turn k j d y).1 ∧ (flP arm turn k j d y).1.1 = y.1.1 := by
  induction k with
  | zero => intro j d y h; exact ⟨h, rfl⟩
  | succ k ih =>
    intro j d y h
    rw [flP]
    split
    · exact ⟨h, rfl⟩
    · have h1 := flA_ok (d := d) (k := arm) (f := y.2) h
      have h2 := flW_ok (j := j) (y := flA d arm y.1 y.2) h1.1
      have h3 := ih (j := j + 1) (d := d + turn - (d + turn) / 8 * 8) (y := flW j (flA d arm y.1 y.2)) h2.1
      exact ⟨h3.1, h3.2.trans (h2.2.trans h1.2)⟩
theorem fly0_ok {x : kK} {a : Int32} : kFl (fly0 x a).1 ∧ (fly0 x a).1.1 = x.1 := by
  unfold fly0
  have h0 : kFl (kkS (kkR x 0 (upd (x.2.2.1 0) 0 ((x.1 0).2.1 0))) 2 0) := ⟨0, by decide, rfl⟩
  have h := flP_ok (arm := (f_X11_armOf a).toNatClampNeg) (turn := if 32 ≤ a then 7 else 1) (k := 8) (j := 0) (d := a - a / 8 * 8) (y := (kkS (kkR x 0 (upd (x.2.2.1 0) 0 ((x.1 0).2.1 0))) 2 0, 1)) h0
  exact ⟨h.1, h.2.trans rfl⟩
theorem flE_ok {y : kK × Int32} (h : kFl y.1) : kFl (flE y) ∧ (flE y).1 = y.1.1 := by
  obtain ⟨L, h1, h2⟩ := h
  exact ⟨⟨L, h1, h2⟩, rfl⟩
theorem fly_ok {x : kK} {a : Int32} : kFl (g_X4_fly x a) ∧ (g_X4_fly x a).1 = x.1 := by
  unfold g_X4_fly
  have h := fly0_ok (x := x) (a := a)
  have h2 := flE_ok h.1
  exact ⟨h2.1, h2.2.trans h.2⟩
set_option maxRecDepth 100000 in
set_option maxHeartbeats 4000000 in
theorem l1_X4_fly {r : kH} {Q : kQ} {a d t : Int32} {j arm : Nat} (ha : arm ≤ 4) (ea : f_X11_armOf a = nI arm) : ∀ k (i : Nat) (x : kK) (f : Int32), i + k = arm → kFl x → (∀ z : Value, kEv kX4_fly (kRm kX4_fly 0 0) (kFm false 0 0 (Q)) false 83 [.ref 102, .ref 2, .int a, .int d, .int t, .int (flA d k x f).2, .int (nI j), z] [] (kTp (kHc (flA d k x f).1) r) 130 0 0) →  kEv kX4_fly (kRm kX4_fly 0 0) (kFm false 0 0 (Q)) false 55 [.ref 102, .ref 2, .int a, .int d, .int t, .int f, .int (nI j), .int (nI i)] [] (kTp (kHc x) r) 130 0 0 := by
  intro k
  induction k with
  | zero =>
    intro i x f hi hf hx
    refine k_iload (i := 7) dX4_fly_55 (rfl : 55 + 2 = 57) rfl ?_
    refine k_iload_n (i := 2) dX4_fly_57 (rfl : 57 + 1 = 58) rfl rfl ?_
    refine k_callSNd1 cv_X4_24 ⟨Nat.le_of_ble_eq_true rfl, Nat.le_of_ble_eq_true rfl⟩ (m_X11_armOf) dX4_fly_58 (rfl : 58 + 3 = 61) rfl ⟨Nat.le_of_ble_eq_true rfl, Nat.le_of_ble_eq_true rfl⟩ ?_
    refine k_icmp_ge (tgt := 83) dX4_fly_61 (rfl : 61 + 3 = 64) (by decide) (fun b61 => ?_) (fun b61 => by exact absurd (by rw [ea]; exact nI_le (a := arm) (b := i) (by omega) (by omega)) b61)
    exact hx _
  | succ k ih =>
    intro i x f hi hf hx
    refine k_iload (i := 7) dX4_fly_55 (rfl : 55 + 2 = 57) rfl ?_
    refine k_iload_n (i := 2) dX4_fly_57 (rfl : 57 + 1 = 58) rfl rfl ?_
    refine k_callSNd1 cv_X4_24 ⟨Nat.le_of_ble_eq_true rfl, Nat.le_of_ble_eq_true rfl⟩ (m_X11_armOf) dX4_fly_58 (rfl : 58 + 3 = 61) rfl ⟨Nat.le_of_ble_eq_true rfl, Nat.le_of_ble_eq_true rfl⟩ ?_
    refine k_icmp_ge (tgt := 83) dX4_fly_61 (rfl : 61 + 3 = 64) (by decide) (fun b61 => by exact absurd (by rw [ea] at b61; exact b61) (nI_ge (a := i) (b := arm) (by omega) (by omega))) (fun b61 => ?_)
    refine k_iload (i := 5) dX4_fly_64 (rfl : 64 + 2 = 66) rfl ?_
    refine k_if_eq (tgt := 83) dX4_fly_66 (rfl : 66 + 3 = 69) (by decide) (fun b66 => ?_) (fun b66 => ?_)
    · rw [flA, if_pos b66] at hx
      exact hx _
    · refine k_aload_n (i := 0) dX4_fly_69 (rfl : 69 + 1 = 70) rfl rfl ?_
      refine k_aload_n (i := 1) dX4_fly_70 (rfl : 70 + 1 = 71) rfl rfl ?_
      refine k_iload_n (i := 3) dX4_fly_71 (rfl : 71 + 1 = 72) rfl rfl ?_
      refine k_callVd2 cv_X4_28 ⟨Nat.le_of_ble_eq_true rfl, Nat.le_of_ble_eq_true rfl⟩ (m_X4_step hf) dX4_fly_72 (rfl : 72 + 3 = 75) (Nat.le_of_ble_eq_true rfl) rfl rfl rfl ⟨Nat.le_of_ble_eq_true rfl, Nat.le_of_ble_eq_true rfl⟩ ?_
      refine k_istore (i := 5) dX4_fly_75 (rfl : 75 + 2 = 77) (Nat.le_of_ble_eq_true rfl) ?_
      refine k_ls (ls2 := [.ref 102, .ref 2, .int a, .int d, .int t, .int (f_X4_step x d), .int (nI j), .int (nI i)]) rfl ?_
      refine k_iinc (i := 7) (v := (nI (i + 1))) dX4_fly_77 (rfl : 77 + 3 = 80) rfl (Nat.le_of_ble_eq_true rfl) (nI_1 _) ?_
      refine k_ls (ls2 := [.ref 102, .ref 2, .int a, .int d, .int t, .int (f_X4_step x d), .int (nI j), .int (nI (i + 1))]) rfl ?_
      refine k_goto (tgt := 55) dX4_fly_80 (by decide) ?_
      rw [flA, if_neg b66] at hx
      exact ih (i + 1) _ _ (by omega) (step_fl hf) hx
set_option maxRecDepth 100000 in
set_option maxHeartbeats 4000000 in
theorem l2_X4_fly {r : kH} {Q : kQ} {a t : Int32} {arm : Nat} (ha : arm ≤ 4) (ea : f_X11_armOf a = nI arm) : ∀ k (j : Nat) (d : Int32) (y : kK × Int32) (z : Value), j + k = 8 → kFl y.1 → (∀ (d2 z2 : Int32) (z : Value), kEv kX4_fly (kRm kX4_fly 0 0) (kFm false 0 0 (Q)) false 122 [.ref 102, .ref 2, .int a, .int d2, .int t, .int (flP arm t k j d y).2, .int z2, z] [] (kTp (kHc (flP arm t k j d y).1) r) 130 0 0) →  kEv kX4_fly (kRm kX4_fly 0 0) (kFm false 0 0 (Q)) false 40 [.ref 102, .ref 2, .int a, .int d, .int t, .int y.2, .int (nI j), z] [] (kTp (kHc y.1) r) 130 0 0 := by
  intro k
  induction k with
  | zero =>
    intro j d y z hj hf hx
    refine k_iload (i := 6) dX4_fly_40 (rfl : 40 + 2 = 42) rfl ?_
    refine k_bipush (v := 8) dX4_fly_42 (rfl : 42 + 2 = 44) (by decide) ?_
    refine k_icmp_ge (tgt := 122) dX4_fly_44 (rfl : 44 + 3 = 47) (by decide) (fun b44 => ?_) (fun b44 => by exact absurd (nI_le (a := 8) (b := j) (by omega) (by omega)) b44)
    exact hx _ _ _
  | succ k ih =>
    intro j d y z hj hf hx
    refine k_iload (i := 6) dX4_fly_40 (rfl : 40 + 2 = 42) rfl ?_
    refine k_bipush (v := 8) dX4_fly_42 (rfl : 42 + 2 = 44) (by decide) ?_
    refine k_icmp_ge (tgt := 122) dX4_fly_44 (rfl : 44 + 3 = 47) (by decide) (fun b44 => by exact absurd b44 (nI_ge (a := j) (b := 8) (by omega) (by decide))) (fun b44 => ?_)
    refine k_iload (i := 5) dX4_fly_47 (rfl : 47 + 2 = 49) rfl ?_
    refine k_if_eq (tgt := 122) dX4_fly_49 (rfl : 49 + 3 = 52) (by decide) (fun b49 => ?_) (fun b49 => ?_)
    · rw [flP, if_pos b49] at hx
      exact hx _ _ _
    · refine k_iconst (v := 0) dX4_fly_52 (rfl : 52 + 1 = 53) (by decide) ?_
      refine k_istore (i := 7) dX4_fly_53 (rfl : 53 + 2 = 55) (Nat.le_of_ble_eq_true rfl) ?_
      refine k_ls (ls2 := [.ref 102, .ref 2, .int a, .int d, .int t, .int y.2, .int (nI j), .int 0]) rfl ?_
      refine l1_X4_fly (d := d) (t := t) (j := j) ha ea arm 0 y.1 y.2 (by omega) hf (fun z => ?_)
      have h1 := flA_ok (d := d) (k := arm) (f := y.2) hf
      generalize hy1 : flA d arm y.1 y.2 = y1 at h1 ⊢
      refine k_iload (i := 5) dX4_fly_83 (rfl : 83 + 2 = 85) rfl ?_
      refine k_if_eq (tgt := 108) dX4_fly_85 (rfl : 85 + 3 = 88) (by decide) (fun b85 => ?_) (fun b85 => ?_)
      · refine k_iload_n (i := 3) dX4_fly_108 (rfl : 108 + 1 = 109) rfl rfl ?_
        refine k_iload (i := 4) dX4_fly_109 (rfl : 109 + 2 = 111) rfl ?_
        refine k_iadd dX4_fly_111 (rfl : 111 + 1 = 112) ?_
        refine k_bipush (v := 8) dX4_fly_112 (rfl : 112 + 2 = 114) (by decide) ?_
        refine k_irem dX4_fly_114 (rfl : 114 + 1 = 115) (by decide) ?_
        refine k_istore_n (i := 3) dX4_fly_115 (rfl : 115 + 1 = 116) rfl (Nat.le_of_ble_eq_true rfl) ?_
        refine k_ls (ls2 := [.ref 102, .ref 2, .int a, .int ((d + t) - (d + t) / 8 * 8), .int t, .int y1.2, .int (nI j), z]) rfl ?_
        refine k_iinc (i := 6) (v := (nI (j + 1))) dX4_fly_116 (rfl : 116 + 3 = 119) rfl (Nat.le_of_ble_eq_true rfl) (nI_1 _) ?_
        refine k_ls (ls2 := [.ref 102, .ref 2, .int a, .int ((d + t) - (d + t) / 8 * 8), .int t, .int y1.2, .int (nI (j + 1)), z]) rfl ?_
        refine k_goto (tgt := 40) dX4_fly_119 (by decide) ?_
        rw [flP, if_neg b49, hy1, flW] at hx
        first
          | (rw [if_pos b85] at hx; exact ih (j + 1) _ y1 _ (by omega) h1.1 hx)
          | (rw [if_neg b85, if_neg b94] at hx; exact ih (j + 1) _ (g_X4_step y1.1 ((y1.1.1 0).2.1 1), f_X4_step y1.1 ((y1.1.1 0).2.1 1)) _ (by omega) (step_fl h1.1) hx)
          | (rw [if_neg b85, if_pos b94] at hx; exact ih (j + 1) _ y1 _ (by omega) h1.1 hx)
      · refine k_iload (i := 6) dX4_fly_88 (rfl : 88 + 2 = 90) rfl ?_
        refine k_aload_n (i := 1) dX4_fly_90 (rfl : 90 + 1 = 91) rfl rfl ?_
        refine k_get 10 3 fg_X4_32 dX4_fly_91 (rfl : 91 + 3 = 94) (Nat.le_of_ble_eq_true rfl) rfl rfl ?_
        refine k_icmp_ge (tgt := 108) dX4_fly_94 (rfl : 94 + 3 = 97) (by decide) (fun b94 => ?_) (fun b94 => ?_)
        · refine k_iload_n (i := 3) dX4_fly_108 (rfl : 108 + 1 = 109) rfl rfl ?_
          refine k_iload (i := 4) dX4_fly_109 (rfl : 109 + 2 = 111) rfl ?_
          refine k_iadd dX4_fly_111 (rfl : 111 + 1 = 112) ?_
          refine k_bipush (v := 8) dX4_fly_112 (rfl : 112 + 2 = 114) (by decide) ?_
          refine k_irem dX4_fly_114 (rfl : 114 + 1 = 115) (by decide) ?_
          refine k_istore_n (i := 3) dX4_fly_115 (rfl : 115 + 1 = 116) rfl (Nat.le_of_ble_eq_true rfl) ?_
          refine k_ls (ls2 := [.ref 102, .ref 2, .int a, .int ((d + t) - (d + t) / 8 * 8), .int t, .int y1.2, .int (nI j), z]) rfl ?_
          refine k_iinc (i := 6) (v := (nI (j + 1))) dX4_fly_116 (rfl : 116 + 3 = 119) rfl (Nat.le_of_ble_eq_true rfl) (nI_1 _) ?_
          refine k_ls (ls2 := [.ref 102, .ref 2, .int a, .int ((d + t) - (d + t) / 8 * 8), .int t, .int y1.2, .int (nI (j + 1)), z]) rfl ?_
          refine k_goto (tgt := 40) dX4_fly_119 (by decide) ?_
          rw [flP, if_neg b49, hy1, flW] at hx
          first
            | (rw [if_pos b85] at hx; exact ih (j + 1) _ y1 _ (by omega) h1.1 hx)
            | (rw [if_neg b85, if_neg b94] at hx; exact ih (j + 1) _ (g_X4_step y1.1 ((y1.1.1 0).2.1 1), f_X4_step y1.1 ((y1.1.1 0).2.1 1)) _ (by omega) (step_fl h1.1) hx)
            | (rw [if_neg b85, if_pos b94] at hx; exact ih (j + 1) _ y1 _ (by omega) h1.1 hx)
        · refine k_aload_n (i := 0) dX4_fly_97 (rfl : 97 + 1 = 98) rfl rfl ?_
          refine k_aload_n (i := 1) dX4_fly_98 (rfl : 98 + 1 = 99) rfl rfl ?_
          refine k_aload_n (i := 1) dX4_fly_99 (rfl : 99 + 1 = 100) rfl rfl ?_
          refine k_get 10 2 fg_X4_35 dX4_fly_100 (rfl : 100 + 3 = 103) (Nat.le_of_ble_eq_true rfl) rfl rfl ?_
          refine k_callVd2 cv_X4_28 ⟨Nat.le_of_ble_eq_true rfl, Nat.le_of_ble_eq_true rfl⟩ (m_X4_step h1.1) dX4_fly_103 (rfl : 103 + 3 = 106) (Nat.le_of_ble_eq_true rfl) rfl rfl rfl ⟨Nat.le_of_ble_eq_true rfl, Nat.le_of_ble_eq_true rfl⟩ ?_
          refine k_istore (i := 5) dX4_fly_106 (rfl : 106 + 2 = 108) (Nat.le_of_ble_eq_true rfl) ?_
          refine k_ls (ls2 := [.ref 102, .ref 2, .int a, .int d, .int t, .int (f_X4_step y1.1 ((y1.1.1 0).2.1 1)), .int (nI j), z]) rfl ?_
          refine k_iload_n (i := 3) dX4_fly_108 (rfl : 108 + 1 = 109) rfl rfl ?_
          refine k_iload (i := 4) dX4_fly_109 (rfl : 109 + 2 = 111) rfl ?_
          refine k_iadd dX4_fly_111 (rfl : 111 + 1 = 112) ?_
          refine k_bipush (v := 8) dX4_fly_112 (rfl : 112 + 2 = 114) (by decide) ?_
          refine k_irem dX4_fly_114 (rfl : 114 + 1 = 115) (by decide) ?_
          refine k_istore_n (i := 3) dX4_fly_115 (rfl : 115 + 1 = 116) rfl (Nat.le_of_ble_eq_true rfl) ?_
          refine k_ls (ls2 := [.ref 102, .ref 2, .int a, .int ((d + t) - (d + t) / 8 * 8), .int t, .int (f_X4_step y1.1 ((y1.1.1 0).2.1 1)), .int (nI j), z]) rfl ?_
          refine k_iinc (i := 6) (v := (nI (j + 1))) dX4_fly_116 (rfl : 116 + 3 = 119) rfl (Nat.le_of_ble_eq_true rfl) (nI_1 _) ?_
          refine k_ls (ls2 := [.ref 102, .ref 2, .int a, .int ((d + t) - (d + t) / 8 * 8), .int t, .int (f_X4_step y1.1 ((y1.1.1 0).2.1 1)), .int (nI (j + 1)), z]) rfl ?_
          refine k_goto (tgt := 40) dX4_fly_119 (by decide) ?_
          rw [flP, if_neg b49, hy1, flW] at hx
          first
            | (rw [if_pos b85] at hx; exact ih (j + 1) _ y1 _ (by omega) h1.1 hx)
            | (rw [if_neg b85, if_neg b94] at hx; exact ih (j + 1) _ (g_X4_step y1.1 ((y1.1.1 0).2.1 1), f_X4_step y1.1 ((y1.1.1 0).2.1 1)) _ (by omega) (step_fl h1.1) hx)
            | (rw [if_neg b85, if_pos b94] at hx; exact ih (j + 1) _ y1 _ (by omega) h1.1 hx)
theorem arm_le {a : Int32} (h0 : ¬ a < 0) (h1 : a < 64) : ∃ arm : Nat, arm ≤ 4 ∧ f_X11_armOf a = nI arm := by
  obtain ⟨k, hk, rfl⟩ := nI_of h0
  have hk2 : k < 64 := (nI_ltI (b := 64) hk (by decide)).mp h1
  exact (by decide +kernel : ∀ k, k < 64 → ∃ arm : Nat, arm ≤ 4 ∧ f_X11_armOf (nI k) = nI arm) k hk2
set_option maxRecDepth 100000 in
set_option maxHeartbeats 4000000 in
theorem l3_X4_fly {r : kH} {a d2 t2 z2 : Int32} {z : Value} {y : kK × Int32} (hf : kFl y.1) : kEv kX4_fly (kRm kX4_fly 0 0) (kFm false 0 0 (kRt none (kTp (kHc (flE y)) r) 130)) false 122 [.ref 102, .ref 2, .int a, .int d2, .int t2, .int y.2, .int z2, z] [] (kTp (kHc y.1) r) 130 0 0 := by
  refine k_aload_n (i := 0) dX4_fly_122 (rfl : 122 + 1 = 123) rfl rfl ?_
  refine k_iload (i := 5) dX4_fly_123 (rfl : 123 + 2 = 125) rfl ?_
  refine k_if_ne (tgt := 133) dX4_fly_125 (rfl : 125 + 3 = 128) (by decide) (fun b125 => ?_) (fun b125 => ?_)
  · refine k_aload_n (i := 0) dX4_fly_133 (rfl : 133 + 1 = 134) rfl rfl ?_
    refine k_get 4 0 fg_X4_9 dX4_fly_134 (rfl : 134 + 3 = 137) (Nat.le_of_ble_eq_true rfl) rfl rfl ?_
    refine k_aload_n (i := 0) dX4_fly_137 (rfl : 137 + 1 = 138) rfl rfl ?_
    refine k_get 4 1 fg_X4_21 dX4_fly_138 (rfl : 138 + 3 = 141) (Nat.le_of_ble_eq_true rfl) rfl rfl ?_
    refine k_iald dX4_fly_141 (rfl : 141 + 1 = 142) (Nat.le_of_ble_eq_true rfl) rfl (kFl_in hf) ?_
    refine k_aload_n (i := 1) dX4_fly_142 (rfl : 142 + 1 = 143) rfl rfl ?_
    refine k_get 10 1 fg_X4_15 dX4_fly_143 (rfl : 143 + 3 = 146) (Nat.le_of_ble_eq_true rfl) rfl rfl ?_
    refine k_icmp_ne (tgt := 154) dX4_fly_146 (rfl : 146 + 3 = 149) (by decide) (fun b146 => ?_) (fun b146 => ?_)
    · refine k_bipush (v := 103) dX4_fly_154 (rfl : 154 + 2 = 156) (by decide) ?_
      refine k_put 4 2 fp_X4_38 dX4_fly_156 (rfl : 156 + 3 = 159) (Nat.le_of_ble_eq_true rfl) rfl (Nat.le_of_ble_eq_true rfl) (by decide) (by decide) ?_
      refine kf_C3 (v := 103) rfl ?_
      refine k_vret rfl dX4_fly_159 (Nat.le_of_ble_eq_true rfl) (Nat.le_of_ble_eq_true rfl) ?_
      refine kRt_of rfl ?_
      unfold flE
      rw [if_neg (show ¬ (y.2 = 0) from b125), if_neg (show ¬ (((y.1.2.2.1 0) (Int32.toNatClampNeg (y.1.2.1 2))) = ((y.1.1 0).2.1 0)) from b146)]
    · refine k_bipush (v := 99) dX4_fly_149 (rfl : 149 + 2 = 151) (by decide) ?_
      refine k_goto (tgt := 156) dX4_fly_151 (by decide) ?_
      refine k_put 4 2 fp_X4_38 dX4_fly_156 (rfl : 156 + 3 = 159) (Nat.le_of_ble_eq_true rfl) rfl (Nat.le_of_ble_eq_true rfl) (by decide) (by decide) ?_
      refine kf_C3 (v := 99) rfl ?_
      refine k_vret rfl dX4_fly_159 (Nat.le_of_ble_eq_true rfl) (Nat.le_of_ble_eq_true rfl) ?_
      refine kRt_of rfl ?_
      unfold flE
      rw [if_neg (show ¬ (y.2 = 0) from b125), if_pos (show ((y.1.2.2.1 0) (Int32.toNatClampNeg (y.1.2.1 2))) = ((y.1.1 0).2.1 0) from b146)]
  · refine k_bipush (v := 116) dX4_fly_128 (rfl : 128 + 2 = 130) (by decide) ?_
    refine k_goto (tgt := 156) dX4_fly_130 (by decide) ?_
    refine k_put 4 2 fp_X4_38 dX4_fly_156 (rfl : 156 + 3 = 159) (Nat.le_of_ble_eq_true rfl) rfl (Nat.le_of_ble_eq_true rfl) (by decide) (by decide) ?_
    refine kf_C3 (v := 116) rfl ?_
    refine k_vret rfl dX4_fly_159 (Nat.le_of_ble_eq_true rfl) (Nat.le_of_ble_eq_true rfl) ?_
    refine kRt_of rfl ?_
    unfold flE
    rw [if_pos (show y.2 = 0 from b125)]
set_option maxRecDepth 100000 in
set_option maxHeartbeats 4000000 in
theorem m_X4_fly {x : kK} {r : kH} {a : Int32} (h0 : ¬ a < 0) (h1 : a < 64) : kMet kX4_fly false 0 0 [.ref 102, .ref 2, .int a] (kTp (kHc x) r) 130 (kRt none (kTp (kHc (g_X4_fly x a)) r) 130) := by
  obtain ⟨arm, ha, ea⟩ := arm_le h0 h1
  refine kMet.in (by decide) rfl rfl _ rfl ?_
  refine k_aload_n (i := 0) dX4_fly_0 (rfl : 0 + 1 = 1) rfl rfl ?_
  refine k_get 4 0 fg_X4_9 dX4_fly_1 (rfl : 1 + 3 = 4) (Nat.le_of_ble_eq_true rfl) rfl rfl ?_
  refine k_iconst (v := 0) dX4_fly_4 (rfl : 4 + 1 = 5) (by decide) ?_
  refine k_aload_n (i := 1) dX4_fly_5 (rfl : 5 + 1 = 6) rfl rfl ?_
  refine k_get 10 1 fg_X4_15 dX4_fly_6 (rfl : 6 + 3 = 9) (Nat.le_of_ble_eq_true rfl) rfl rfl ?_
  refine k_iast dX4_fly_9 (rfl : 9 + 1 = 10) (Nat.le_of_ble_eq_true rfl) rfl (vp_in_nI (n := 0) (N := 36) (by decide) (by decide)) ?_
  refine kf_X0 (f := (upd (x.2.2.1 0) (Int32.toNatClampNeg 0) ((x.1 0).2.1 0))) rfl ?_
  refine k_aload_n (i := 0) dX4_fly_10 (rfl : 10 + 1 = 11) rfl rfl ?_
  refine k_iconst (v := 0) dX4_fly_11 (rfl : 11 + 1 = 12) (by decide) ?_
  refine k_put 4 1 fp_X4_21 dX4_fly_12 (rfl : 12 + 3 = 15) (Nat.le_of_ble_eq_true rfl) rfl (Nat.le_of_ble_eq_true rfl) rfl rfl ?_
  refine kf_C2 (v := 0) rfl ?_
  refine k_iload_n (i := 2) dX4_fly_15 (rfl : 15 + 1 = 16) rfl rfl ?_
  refine k_bipush (v := 8) dX4_fly_16 (rfl : 16 + 2 = 18) (by decide) ?_
  refine k_irem dX4_fly_18 (rfl : 18 + 1 = 19) (by decide) ?_
  refine k_istore_n (i := 3) dX4_fly_19 (rfl : 19 + 1 = 20) rfl (Nat.le_of_ble_eq_true rfl) ?_
  refine k_ls (ls2 := [.ref 102, .ref 2, .int a, .int (a - a / 8 * 8), .retAddr 0, .retAddr 0, .retAddr 0, .retAddr 0]) rfl ?_
  refine k_iload_n (i := 2) dX4_fly_20 (rfl : 20 + 1 = 21) rfl rfl ?_
  refine k_bipush (v := 32) dX4_fly_21 (rfl : 21 + 2 = 23) (by decide) ?_
  refine k_icmp_ge (tgt := 30) dX4_fly_23 (rfl : 23 + 3 = 26) (by decide) (fun b23 => ?_) (fun b23 => ?_)
  · refine k_bipush (v := 7) dX4_fly_30 (rfl : 30 + 2 = 32) (by decide) ?_
    refine k_istore (i := 4) dX4_fly_32 (rfl : 32 + 2 = 34) (Nat.le_of_ble_eq_true rfl) ?_
    refine k_ls (ls2 := [.ref 102, .ref 2, .int a, .int (a - a / 8 * 8), .int 7, .retAddr 0, .retAddr 0, .retAddr 0]) rfl ?_
    refine k_iconst (v := 1) dX4_fly_34 (rfl : 34 + 1 = 35) (by decide) ?_
    refine k_istore (i := 5) dX4_fly_35 (rfl : 35 + 2 = 37) (Nat.le_of_ble_eq_true rfl) ?_
    refine k_ls (ls2 := [.ref 102, .ref 2, .int a, .int (a - a / 8 * 8), .int 7, .int 1, .retAddr 0, .retAddr 0]) rfl ?_
    refine k_iconst (v := 0) dX4_fly_37 (rfl : 37 + 1 = 38) (by decide) ?_
    refine k_istore (i := 6) dX4_fly_38 (rfl : 38 + 2 = 40) (Nat.le_of_ble_eq_true rfl) ?_
    refine k_ls (ls2 := [.ref 102, .ref 2, .int a, .int (a - a / 8 * 8), .int 7, .int 1, .int 0, .retAddr 0]) rfl ?_
    refine l2_X4_fly (t := 7) ha ea 8 0 (a - a / 8 * 8) (kkS (kkR x 0 (upd (x.2.2.1 0) 0 ((x.1 0).2.1 0))) 2 0, 1) _ rfl ⟨0, by decide, rfl⟩ (fun d2 z2 z => ?_)
    have e0 : fly0 x a = flP arm 7 8 0 (a - a / 8 * 8) (kkS (kkR x 0 (upd (x.2.2.1 0) 0 ((x.1 0).2.1 0))) 2 0, 1) := by unfold fly0; rw [ea, nI_clamp (by omega), if_pos b23]
    rw [← e0]
    exact l3_X4_fly fly0_ok.1
  · refine k_iconst (v := 1) dX4_fly_26 (rfl : 26 + 1 = 27) (by decide) ?_
    refine k_goto (tgt := 32) dX4_fly_27 (by decide) ?_
    refine k_istore (i := 4) dX4_fly_32 (rfl : 32 + 2 = 34) (Nat.le_of_ble_eq_true rfl) ?_
    refine k_ls (ls2 := [.ref 102, .ref 2, .int a, .int (a - a / 8 * 8), .int 1, .retAddr 0, .retAddr 0, .retAddr 0]) rfl ?_
    refine k_iconst (v := 1) dX4_fly_34 (rfl : 34 + 1 = 35) (by decide) ?_
    refine k_istore (i := 5) dX4_fly_35 (rfl : 35 + 2 = 37) (Nat.le_of_ble_eq_true rfl) ?_
    refine k_ls (ls2 := [.ref 102, .ref 2, .int a, .int (a - a / 8 * 8), .int 1, .int 1, .retAddr 0, .retAddr 0]) rfl ?_
    refine k_iconst (v := 0) dX4_fly_37 (rfl : 37 + 1 = 38) (by decide) ?_
    refine k_istore (i := 6) dX4_fly_38 (rfl : 38 + 2 = 40) (Nat.le_of_ble_eq_true rfl) ?_
    refine k_ls (ls2 := [.ref 102, .ref 2, .int a, .int (a - a / 8 * 8), .int 1, .int 1, .int 0, .retAddr 0]) rfl ?_
    refine l2_X4_fly (t := 1) ha ea 8 0 (a - a / 8 * 8) (kkS (kkR x 0 (upd (x.2.2.1 0) 0 ((x.1 0).2.1 0))) 2 0, 1) _ rfl ⟨0, by decide, rfl⟩ (fun d2 z2 z => ?_)
    have e0 : fly0 x a = flP arm 1 8 0 (a - a / 8 * 8) (kkS (kkR x 0 (upd (x.2.2.1 0) 0 ((x.1 0).2.1 0))) 2 0, 1) := by unfold fly0; rw [ea, nI_clamp (by omega), if_neg b23]
    rw [← e0]
    exact l3_X4_fly fly0_ok.1
