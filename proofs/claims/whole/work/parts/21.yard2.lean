def f_X10_signOf (x : kK) (a1 : Int32) : Int32 := if (pFind ((x.1 0).2.2 0) a1 (Int32.toNatClampNeg ((x.1 0).2.1 3)) 0) = (-1) then (if (b2i (bitA (x.1 0).1 a1)) = 0 then (if a1 = ((x.1 0).2.1 0) then 66 else 46) else 84) else ((Int32.toUInt32 (48 + (pFind ((x.1 0).2.2 0) a1 (Int32.toNatClampNeg ((x.1 0).2.1 3)) 0)) % 65536).toInt32)
set_option maxRecDepth 100000 in
set_option maxHeartbeats 4000000 in
theorem m_X10_signOf {x : kK} {r : kH} (iv : kIv (x.1 0)) {a1 : Int32} : kMet kX10_signOf false 0 0 [.ref 2, .int a1] (kTp (kHc x) r) 130 (kRt (some (.int (f_X10_signOf x a1))) (kTp (kHc x) r) 130) := by
  refine kMet.in (by decide) rfl rfl _ rfl ?_
  refine k_aload_n (i := 0) dX10_signOf_0 (rfl : 0 + 1 = 1) rfl rfl ?_
  refine k_iload_n (i := 1) dX10_signOf_1 (rfl : 1 + 1 = 2) rfl rfl ?_
  refine k_callVd1 cv_X10_38 ⟨Nat.le_of_ble_eq_true rfl, Nat.le_of_ble_eq_true rfl⟩ (m2_X10_partyAt iv) dX10_signOf_2 (rfl : 2 + 3 = 5) (Nat.le_of_ble_eq_true rfl) rfl rfl rfl ⟨Nat.le_of_ble_eq_true rfl, Nat.le_of_ble_eq_true rfl⟩ ?_
  refine k_istore_n (i := 2) dX10_signOf_5 (rfl : 5 + 1 = 6) rfl (Nat.le_of_ble_eq_true rfl) ?_
  refine k_ls (ls2 := [.ref 2, .int a1, .int (pFind ((x.1 0).2.2 0) a1 (Int32.toNatClampNeg ((x.1 0).2.1 3)) 0)]) rfl ?_
  refine k_iload_n (i := 2) dX10_signOf_6 (rfl : 6 + 1 = 7) rfl rfl ?_
  refine k_iconst (v := (-1)) dX10_signOf_7 (rfl : 7 + 1 = 8) (by decide) ?_
  refine k_icmp_eq (tgt := 17) dX10_signOf_8 (rfl : 8 + 3 = 11) (by decide) (fun b8 => ?_) (fun b8 => ?_)
  · refine k_aload_n (i := 0) dX10_signOf_17 (rfl : 17 + 1 = 18) rfl rfl ?_
    refine k_iload_n (i := 1) dX10_signOf_18 (rfl : 18 + 1 = 19) rfl rfl ?_
    refine k_callVd1 cv_X10_42 ⟨Nat.le_of_ble_eq_true rfl, Nat.le_of_ble_eq_true rfl⟩ (m_X10_hasTree) dX10_signOf_19 (rfl : 19 + 3 = 22) (Nat.le_of_ble_eq_true rfl) rfl rfl rfl ⟨Nat.le_of_ble_eq_true rfl, Nat.le_of_ble_eq_true rfl⟩ ?_
    refine k_if_eq (tgt := 30) dX10_signOf_22 (rfl : 22 + 3 = 25) (by decide) (fun b22 => ?_) (fun b22 => ?_)
    · refine k_iload_n (i := 1) dX10_signOf_30 (rfl : 30 + 1 = 31) rfl rfl ?_
      refine k_aload_n (i := 0) dX10_signOf_31 (rfl : 31 + 1 = 32) rfl rfl ?_
      refine k_get 10 1 fg_X10_19 dX10_signOf_32 (rfl : 32 + 3 = 35) (Nat.le_of_ble_eq_true rfl) rfl rfl ?_
      refine k_icmp_ne (tgt := 43) dX10_signOf_35 (rfl : 35 + 3 = 38) (by decide) (fun b35 => ?_) (fun b35 => ?_)
      · refine k_bipush (v := 46) dX10_signOf_43 (rfl : 43 + 2 = 45) (by decide) ?_
        refine k_iret rfl rfl dX10_signOf_45 (Nat.le_of_ble_eq_true rfl) (Nat.le_of_ble_eq_true rfl) ?_
        exact kRt_of (congrArg (fun z => some (Value.int z)) (Eq.symm (Eq.trans (if_pos (show (pFind ((x.1 0).2.2 0) a1 (Int32.toNatClampNeg ((x.1 0).2.1 3)) 0) = (-1) from b8)) (Eq.trans (if_pos (show (b2i (bitA (x.1 0).1 a1)) = 0 from b22)) (if_neg (show ¬ (a1 = ((x.1 0).2.1 0)) from b35)))))) rfl
      · refine k_bipush (v := 66) dX10_signOf_38 (rfl : 38 + 2 = 40) (by decide) ?_
        refine k_goto (tgt := 45) dX10_signOf_40 (by decide) ?_
        refine k_iret rfl rfl dX10_signOf_45 (Nat.le_of_ble_eq_true rfl) (Nat.le_of_ble_eq_true rfl) ?_
        exact kRt_of (congrArg (fun z => some (Value.int z)) (Eq.symm (Eq.trans (if_pos (show (pFind ((x.1 0).2.2 0) a1 (Int32.toNatClampNeg ((x.1 0).2.1 3)) 0) = (-1) from b8)) (Eq.trans (if_pos (show (b2i (bitA (x.1 0).1 a1)) = 0 from b22)) (if_pos (show a1 = ((x.1 0).2.1 0) from b35)))))) rfl
    · refine k_bipush (v := 84) dX10_signOf_25 (rfl : 25 + 2 = 27) (by decide) ?_
      refine k_goto (tgt := 45) dX10_signOf_27 (by decide) ?_
      refine k_iret rfl rfl dX10_signOf_45 (Nat.le_of_ble_eq_true rfl) (Nat.le_of_ble_eq_true rfl) ?_
      exact kRt_of (congrArg (fun z => some (Value.int z)) (Eq.symm (Eq.trans (if_pos (show (pFind ((x.1 0).2.2 0) a1 (Int32.toNatClampNeg ((x.1 0).2.1 3)) 0) = (-1) from b8)) (if_neg (show ¬ ((b2i (bitA (x.1 0).1 a1)) = 0) from b22))))) rfl
  · refine k_bipush (v := 48) dX10_signOf_11 (rfl : 11 + 2 = 13) (by decide) ?_
    refine k_iload_n (i := 2) dX10_signOf_13 (rfl : 13 + 1 = 14) rfl rfl ?_
    refine k_iadd dX10_signOf_14 (rfl : 14 + 1 = 15) ?_
    refine k_i2c dX10_signOf_15 (rfl : 15 + 1 = 16) ?_
    refine k_iret rfl (by first | rfl | exact pk_nc _) dX10_signOf_16 (Nat.le_of_ble_eq_true rfl) (Nat.le_of_ble_eq_true rfl) ?_
    exact kRt_of (congrArg (fun z => some (Value.int z)) (Eq.symm (if_neg (show ¬ ((pFind ((x.1 0).2.2 0) a1 (Int32.toNatClampNeg ((x.1 0).2.1 3)) 0) = (-1)) from b8)))) rfl
def tcI (t : Int64) (y : Int32) : Nat → Nat → Int64 → Int64
  | 0, _, s => s
  | k + 1, j, s => tcI t y k (j + 1) (if b2i (bitA t (f_X11_cellAt (nI j) y)) = 0 then s else s ||| (1 <<< (Int32.toInt64 (f_X11_cellAt (7 - y) (nI j)) &&& 63)))
def tcO (t : Int64) : Nat → Nat → Int64 → Int64
  | 0, _, s => s
  | k + 1, j, s => tcO t k (j + 1) (tcI t (nI j) 8 0 s)
set_option maxRecDepth 100000 in
set_option maxHeartbeats 4000000 in
theorem l1_X10_turnedCellByCell {x : kK} {r : kH} {Q : kQ} {y : Int32} : ∀ k (j : Nat) (s : Int64), j + k = 8 → kEv kX10_turnedCellByCell (kRm kX10_turnedCellByCell 0 0) (kFm false 0 0 (Q)) false 53 [.ref 2, .long (tcI (x.1 0).1 y k j s), .retAddr 0, .int y, .int (nI 8)] [] (kTp (kHc x) r) 130 0 0 →  kEv kX10_turnedCellByCell (kRm kX10_turnedCellByCell 0 0) (kFm false 0 0 (Q)) false 13 [.ref 2, .long s, .retAddr 0, .int y, .int (nI j)] [] (kTp (kHc x) r) 130 0 0 := by
  intro k
  induction k with
  | zero =>
    intro j s hj hx
    refine k_iload (i := 4) dX10_turnedCellByCell_13 (rfl : 13 + 2 = 15) rfl ?_
    refine k_bipush (v := 8) dX10_turnedCellByCell_15 (rfl : 15 + 2 = 17) (by decide) ?_
    refine k_icmp_ge (tgt := 53) dX10_turnedCellByCell_17 (rfl : 17 + 3 = 20) (by decide) (fun b17 => ?_) (fun b17 => by exact absurd (nI_le (a := 8) (b := j) (by omega) (by omega)) b17)
    obtain rfl : j = 8 := by omega
    exact hx
  | succ k ih =>
    intro j s hj hx
    refine k_iload (i := 4) dX10_turnedCellByCell_13 (rfl : 13 + 2 = 15) rfl ?_
    refine k_bipush (v := 8) dX10_turnedCellByCell_15 (rfl : 15 + 2 = 17) (by decide) ?_
    refine k_icmp_ge (tgt := 53) dX10_turnedCellByCell_17 (rfl : 17 + 3 = 20) (by decide) (fun b17 => by exact absurd b17 (nI_ge (a := j) (b := 8) (by omega) (by decide))) (fun b17 => ?_)
    refine k_aload_n (i := 0) dX10_turnedCellByCell_20 (rfl : 20 + 1 = 21) rfl rfl ?_
    refine k_iload (i := 4) dX10_turnedCellByCell_21 (rfl : 21 + 2 = 23) rfl ?_
    refine k_iload_n (i := 3) dX10_turnedCellByCell_23 (rfl : 23 + 1 = 24) rfl rfl ?_
    refine k_callSNd2 cv_X10_62 ⟨Nat.le_of_ble_eq_true rfl, Nat.le_of_ble_eq_true rfl⟩ (m_X11_cellAt) dX10_turnedCellByCell_24 (rfl : 24 + 3 = 27) rfl ⟨Nat.le_of_ble_eq_true rfl, Nat.le_of_ble_eq_true rfl⟩ ?_
    refine k_callVd1 cv_X10_42 ⟨Nat.le_of_ble_eq_true rfl, Nat.le_of_ble_eq_true rfl⟩ (m_X10_hasTree) dX10_turnedCellByCell_27 (rfl : 27 + 3 = 30) (Nat.le_of_ble_eq_true rfl) rfl rfl rfl ⟨Nat.le_of_ble_eq_true rfl, Nat.le_of_ble_eq_true rfl⟩ ?_
    refine k_if_eq (tgt := 47) dX10_turnedCellByCell_30 (rfl : 30 + 3 = 33) (by decide) (fun b30 => ?_) (fun b30 => ?_)
    · refine k_iinc (i := 4) (v := (nI (j + 1))) dX10_turnedCellByCell_47 (rfl : 47 + 3 = 50) rfl (Nat.le_of_ble_eq_true rfl) (nI_1 _) ?_
      refine k_ls (ls2 := [.ref 2, .long s, .retAddr 0, .int y, .int (nI (j + 1))]) rfl ?_
      refine k_goto (tgt := 13) dX10_turnedCellByCell_50 (by decide) ?_
      refine ih (j + 1) _ (by omega) ?_
      rw [tcI] at hx
      first
        | (rw [if_pos b30] at hx; exact hx)
        | (rw [if_neg b30] at hx; exact hx)
    · refine k_lload_n (i := 1) dX10_turnedCellByCell_33 (rfl : 33 + 1 = 34) rfl rfl ?_
      refine k_lconst (v := 1) dX10_turnedCellByCell_34 (rfl : 34 + 1 = 35) (by decide) ?_
      refine k_bipush (v := 7) dX10_turnedCellByCell_35 (rfl : 35 + 2 = 37) (by decide) ?_
      refine k_iload_n (i := 3) dX10_turnedCellByCell_37 (rfl : 37 + 1 = 38) rfl rfl ?_
      refine k_isub dX10_turnedCellByCell_38 (rfl : 38 + 1 = 39) ?_
      refine k_iload (i := 4) dX10_turnedCellByCell_39 (rfl : 39 + 2 = 41) rfl ?_
      refine k_callSNd2 cv_X10_62 ⟨Nat.le_of_ble_eq_true rfl, Nat.le_of_ble_eq_true rfl⟩ (m_X11_cellAt) dX10_turnedCellByCell_41 (rfl : 41 + 3 = 44) rfl ⟨Nat.le_of_ble_eq_true rfl, Nat.le_of_ble_eq_true rfl⟩ ?_
      refine k_lshl dX10_turnedCellByCell_44 (rfl : 44 + 1 = 45) ?_
      refine k_lor dX10_turnedCellByCell_45 (rfl : 45 + 1 = 46) ?_
      refine k_lstore_n (i := 1) dX10_turnedCellByCell_46 (rfl : 46 + 1 = 47) rfl (Nat.le_of_ble_eq_true rfl) ?_
      refine k_ls (ls2 := [.ref 2, .long (s ||| (1 <<< (Int32.toInt64 (f_X11_cellAt (7 - y) (nI j)) &&& 63))), .retAddr 0, .int y, .int (nI j)]) rfl ?_
      refine k_iinc (i := 4) (v := (nI (j + 1))) dX10_turnedCellByCell_47 (rfl : 47 + 3 = 50) rfl (Nat.le_of_ble_eq_true rfl) (nI_1 _) ?_
      refine k_ls (ls2 := [.ref 2, .long (s ||| (1 <<< (Int32.toInt64 (f_X11_cellAt (7 - y) (nI j)) &&& 63))), .retAddr 0, .int y, .int (nI (j + 1))]) rfl ?_
      refine k_goto (tgt := 13) dX10_turnedCellByCell_50 (by decide) ?_
      refine ih (j + 1) _ (by omega) ?_
      rw [tcI] at hx
      first
        | (rw [if_pos b30] at hx; exact hx)
        | (rw [if_neg b30] at hx; exact hx)
set_option maxRecDepth 100000 in
set_option maxHeartbeats 4000000 in
theorem l2_X10_turnedCellByCell {x : kK} {r : kH} : ∀ k (j : Nat) (s : Int64) (z : Value), j + k = 8 →  kEv kX10_turnedCellByCell (kRm kX10_turnedCellByCell 0 0) (kFm false 0 0 (kRt (some (.long (tcO (x.1 0).1 k j s))) (kTp (kHc x) r) 130)) false 4 [.ref 2, .long s, .retAddr 0, .int (nI j), z] [] (kTp (kHc x) r) 130 0 0 := by
  intro k
  induction k with
  | zero =>
    intro j s z hj
    refine k_iload_n (i := 3) dX10_turnedCellByCell_4 (rfl : 4 + 1 = 5) rfl rfl ?_
    refine k_bipush (v := 8) dX10_turnedCellByCell_5 (rfl : 5 + 2 = 7) (by decide) ?_
    refine k_icmp_ge (tgt := 59) dX10_turnedCellByCell_7 (rfl : 7 + 3 = 10) (by decide) (fun b7 => ?_) (fun b7 => by exact absurd (nI_le (a := 8) (b := j) (by omega) (by omega)) b7)
    refine k_lload_n (i := 1) dX10_turnedCellByCell_59 (rfl : 59 + 1 = 60) rfl rfl ?_
    refine k_lret rfl dX10_turnedCellByCell_60 (Nat.le_of_ble_eq_true rfl) (Nat.le_of_ble_eq_true rfl) ?_
    exact kRt_of rfl rfl
  | succ k ih =>
    intro j s z hj
    refine k_iload_n (i := 3) dX10_turnedCellByCell_4 (rfl : 4 + 1 = 5) rfl rfl ?_
    refine k_bipush (v := 8) dX10_turnedCellByCell_5 (rfl : 5 + 2 = 7) (by decide) ?_
    refine k_icmp_ge (tgt := 59) dX10_turnedCellByCell_7 (rfl : 7 + 3 = 10) (by decide) (fun b7 => by exact absurd b7 (nI_ge (a := j) (b := 8) (by omega) (by decide))) (fun b7 => ?_)
    refine k_iconst (v := 0) dX10_turnedCellByCell_10 (rfl : 10 + 1 = 11) (by decide) ?_
    refine k_istore (i := 4) dX10_turnedCellByCell_11 (rfl : 11 + 2 = 13) (Nat.le_of_ble_eq_true rfl) ?_
    refine k_ls (ls2 := [.ref 2, .long s, .retAddr 0, .int (nI j), .int 0]) rfl ?_
    refine l1_X10_turnedCellByCell 8 0 s rfl ?_
    refine k_iinc (i := 3) (v := (nI (j + 1))) dX10_turnedCellByCell_53 (rfl : 53 + 3 = 56) rfl (Nat.le_of_ble_eq_true rfl) (nI_1 _) ?_
    refine k_ls (ls2 := [.ref 2, .long (tcI (x.1 0).1 (nI j) 8 0 s), .retAddr 0, .int (nI (j + 1)), .int (nI 8)]) rfl ?_
    refine k_goto (tgt := 4) dX10_turnedCellByCell_56 (by decide) ?_
    exact ih (j + 1) _ _ (by omega)
set_option maxRecDepth 100000 in
set_option maxHeartbeats 4000000 in
theorem m_X10_turnedCellByCell {x : kK} {r : kH} : kMet kX10_turnedCellByCell false 0 0 [.ref 2] (kTp (kHc x) r) 130 (kRt (some (.long (tcO (x.1 0).1 8 0 0))) (kTp (kHc x) r) 130) := by
  refine kMet.in (by decide) rfl rfl _ rfl ?_
  refine k_lconst (v := 0) dX10_turnedCellByCell_0 (rfl : 0 + 1 = 1) (by decide) ?_
  refine k_lstore_n (i := 1) dX10_turnedCellByCell_1 (rfl : 1 + 1 = 2) rfl (Nat.le_of_ble_eq_true rfl) ?_
  refine k_iconst (v := 0) dX10_turnedCellByCell_2 (rfl : 2 + 1 = 3) (by decide) ?_
  refine k_istore_n (i := 3) dX10_turnedCellByCell_3 (rfl : 3 + 1 = 4) rfl (Nat.le_of_ble_eq_true rfl) ?_
  exact l2_X10_turnedCellByCell 8 0 0 _ rfl
/-- the set grows by its neighbours without trees, k times at most -/
def cbs (t : Int64) : Nat → Int64 → Int64
  | 0, s => s
  | k + 1, s => if lg_cmp ((f_X10_withNeighbours s) &&& (t ^^^ (-1))) s = 0 then s else cbs t k ((f_X10_withNeighbours s) &&& (t ^^^ (-1)))
set_option maxRecDepth 100000 in
set_option maxHeartbeats 4000000 in
theorem l_X10_connectedBySets {x : kK} {r : kH} {c : Int32} : ∀ k (j : Nat) (s : Int64) (z : Value), j + k = 64 →  kEv kX10_connectedBySets (kRm kX10_connectedBySets 0 0) (kFm false 0 0 (kRt (some (.long (cbs (x.1 0).1 k s))) (kTp (kHc x) r) 130)) false 16 [.ref 2, .int c, .long s, .retAddr 0, .int (nI j), z, .retAddr 0] [] (kTp (kHc x) r) 130 0 0 := by
  intro k
  induction k with
  | zero =>
    intro j s z hj
    refine k_iload (i := 4) dX10_connectedBySets_16 (rfl : 16 + 2 = 18) rfl ?_
    refine k_bipush (v := 64) dX10_connectedBySets_18 (rfl : 18 + 2 = 20) (by decide) ?_
    refine k_icmp_ge (tgt := 57) dX10_connectedBySets_20 (rfl : 20 + 3 = 23) (by decide) (fun b20 => ?_) (fun b20 => by exact absurd (nI_le (a := 64) (b := j) (by omega) (by omega)) b20)
    refine k_lload_n (i := 2) dX10_connectedBySets_57 (rfl : 57 + 1 = 58) rfl rfl ?_
    refine k_lret rfl dX10_connectedBySets_58 (Nat.le_of_ble_eq_true rfl) (Nat.le_of_ble_eq_true rfl) ?_
    exact kRt_rfl
  | succ k ih =>
    intro j s z hj
    refine k_iload (i := 4) dX10_connectedBySets_16 (rfl : 16 + 2 = 18) rfl ?_
    refine k_bipush (v := 64) dX10_connectedBySets_18 (rfl : 18 + 2 = 20) (by decide) ?_
    refine k_icmp_ge (tgt := 57) dX10_connectedBySets_20 (rfl : 20 + 3 = 23) (by decide) (fun b20 => by exact absurd b20 (nI_ge (a := j) (b := 64) (by omega) (by decide))) (fun b20 => ?_)
    refine k_lload_n (i := 2) dX10_connectedBySets_23 (rfl : 23 + 1 = 24) rfl rfl ?_
    refine k_callSd1 cv_X10_68 ⟨Nat.le_of_ble_eq_true rfl, Nat.le_of_ble_eq_true rfl⟩ (m_X10_withNeighbours) dX10_connectedBySets_24 (rfl : 24 + 3 = 27) rfl ⟨Nat.le_of_ble_eq_true rfl, Nat.le_of_ble_eq_true rfl⟩ ?_
    refine k_aload_n (i := 0) dX10_connectedBySets_27 (rfl : 27 + 1 = 28) rfl rfl ?_
    refine k_get 10 0 fg_X10_15 dX10_connectedBySets_28 (rfl : 28 + 3 = 31) (Nat.le_of_ble_eq_true rfl) rfl rfl ?_
    refine k_ldc2 dX10_connectedBySets_31 (rfl : 31 + 3 = 34) kc_X10_66 ?_
    refine k_lxor dX10_connectedBySets_34 (rfl : 34 + 1 = 35) ?_
    refine k_land dX10_connectedBySets_35 (rfl : 35 + 1 = 36) ?_
    refine k_lstore (i := 5) dX10_connectedBySets_36 (rfl : 36 + 2 = 38) (Nat.le_of_ble_eq_true rfl) ?_
    refine k_ls (ls2 := [.ref 2, .int c, .long s, .retAddr 0, .int (nI j), .long ((f_X10_withNeighbours s) &&& ((x.1 0).1 ^^^ (-1 : Int64))), .retAddr 0]) rfl ?_
    refine k_lload (i := 5) dX10_connectedBySets_38 (rfl : 38 + 2 = 40) rfl ?_
    refine k_lload_n (i := 2) dX10_connectedBySets_40 (rfl : 40 + 1 = 41) rfl rfl ?_
    refine k_lcmp dX10_connectedBySets_41 (rfl : 41 + 1 = 42) ?_
    refine k_if_ne (tgt := 48) dX10_connectedBySets_42 (rfl : 42 + 3 = 45) (by decide) (fun b42 => ?_) (fun b42 => ?_)
    · refine k_lload (i := 5) dX10_connectedBySets_48 (rfl : 48 + 2 = 50) rfl ?_
      refine k_lstore_n (i := 2) dX10_connectedBySets_50 (rfl : 50 + 1 = 51) rfl (Nat.le_of_ble_eq_true rfl) ?_
      refine k_ls (ls2 := [.ref 2, .int c, .long ((f_X10_withNeighbours s) &&& ((x.1 0).1 ^^^ (-1 : Int64))), .retAddr 0, .int (nI j), .long ((f_X10_withNeighbours s) &&& ((x.1 0).1 ^^^ (-1 : Int64))), .retAddr 0]) rfl ?_
      refine k_iinc (i := 4) (v := (nI (j + 1))) dX10_connectedBySets_51 (rfl : 51 + 3 = 54) rfl (Nat.le_of_ble_eq_true rfl) (nI_1 _) ?_
      refine k_ls (ls2 := [.ref 2, .int c, .long ((f_X10_withNeighbours s) &&& ((x.1 0).1 ^^^ (-1 : Int64))), .retAddr 0, .int (nI (j + 1)), .long ((f_X10_withNeighbours s) &&& ((x.1 0).1 ^^^ (-1 : Int64))), .retAddr 0]) rfl ?_
      refine k_goto (tgt := 16) dX10_connectedBySets_54 (by decide) ?_
      rw [show cbs (x.1 0).1 (k + 1) s = cbs (x.1 0).1 k (f_X10_withNeighbours s &&& ((x.1 0).1 ^^^ (-1))) from if_neg b42]
      exact ih (j + 1) _ _ (by omega)
    · refine k_goto (tgt := 57) dX10_connectedBySets_45 (by decide) ?_
      refine k_lload_n (i := 2) dX10_connectedBySets_57 (rfl : 57 + 1 = 58) rfl rfl ?_
      refine k_lret rfl dX10_connectedBySets_58 (Nat.le_of_ble_eq_true rfl) (Nat.le_of_ble_eq_true rfl) ?_
      exact kRt_of (congrArg (fun z => some (Value.long z)) (if_pos b42).symm) rfl
set_option maxRecDepth 100000 in
set_option maxHeartbeats 4000000 in
theorem m_X10_connectedBySets {x : kK} {r : kH} {c : Int32} : kMet kX10_connectedBySets false 0 0 [.ref 2, .int c] (kTp (kHc x) r) 130 (kRt (some (.long (cbs (x.1 0).1 64 (((1 : Int64) <<< (c.toInt64 &&& 63)) &&& ((x.1 0).1 ^^^ (-1)))))) (kTp (kHc x) r) 130) := by
  refine kMet.in (by decide) rfl rfl _ rfl ?_
  refine k_lconst (v := 1) dX10_connectedBySets_0 (rfl : 0 + 1 = 1) (by decide) ?_
  refine k_iload_n (i := 1) dX10_connectedBySets_1 (rfl : 1 + 1 = 2) rfl rfl ?_
  refine k_lshl dX10_connectedBySets_2 (rfl : 2 + 1 = 3) ?_
  refine k_aload_n (i := 0) dX10_connectedBySets_3 (rfl : 3 + 1 = 4) rfl rfl ?_
  refine k_get 10 0 fg_X10_15 dX10_connectedBySets_4 (rfl : 4 + 3 = 7) (Nat.le_of_ble_eq_true rfl) rfl rfl ?_
  refine k_ldc2 dX10_connectedBySets_7 (rfl : 7 + 3 = 10) kc_X10_66 ?_
  refine k_lxor dX10_connectedBySets_10 (rfl : 10 + 1 = 11) ?_
  refine k_land dX10_connectedBySets_11 (rfl : 11 + 1 = 12) ?_
  refine k_lstore_n (i := 2) dX10_connectedBySets_12 (rfl : 12 + 1 = 13) rfl (Nat.le_of_ble_eq_true rfl) ?_
  refine k_iconst (v := 0) dX10_connectedBySets_13 (rfl : 13 + 1 = 14) (by decide) ?_
  refine k_istore (i := 4) dX10_connectedBySets_14 (rfl : 14 + 2 = 16) (Nat.le_of_ble_eq_true rfl) ?_
  exact l_X10_connectedBySets 64 0 _ _ rfl
