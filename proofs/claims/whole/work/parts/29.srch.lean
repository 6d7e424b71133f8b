def paL (a : Int32) : Nat → kK → Nat → Int32 → kK × Int32
  | 0, x, j, s => (x, s)
  | k + 1, x, j, s => (paL a k (g_X3_passHour x) (j + 1) (s + (f_X3_passHour x)))
set_option maxRecDepth 100000 in
set_option maxHeartbeats 4000000 in
theorem lpaL {r : kH} {Q : kQ} {a : Int32}  : ∀ (k : Nat) (x : kK) (j : Nat) (s : Int32), j + k = (Int32.toNatClampNeg a) → kIv (x.1 0) → (∀ (z3 : Value), kEv kX11_passHours (kRm kX11_passHours 0 0) (kFm false 0 0 (Q)) false 28 [.ref 0, .int a, .int (paL a k x j s).2, z3] [] (kTp (kHc (paL a k x j s).1) r) 130 0 0) → kEv kX11_passHours (kRm kX11_passHours 0 0) (kFm false 0 0 (Q)) false 4 [.ref 0, .int a, .int s, .int (nI j)] [] (kTp (kHc x) r) 130 0 0 := by
  intro k
  induction k with
  | zero =>
    intro x j s hj iv hx
    refine k_iload_n (i := 3) dX11_passHours_4 (rfl : 4 + 1 = 5) rfl rfl ?_
    refine k_iload_n (i := 1) dX11_passHours_5 (rfl : 5 + 1 = 6) rfl rfl ?_
    refine k_icmp_ge (tgt := 28) dX11_passHours_6 (rfl : 6 + 3 = 9) (by decide) (fun b6 => ?_) (fun b6 => by exact absurd (cl_le (by omega)) b6)
    rw [paL] at hx
    exact hx _
  | succ k ih =>
    intro x j s hj iv hx
    refine k_iload_n (i := 3) dX11_passHours_4 (rfl : 4 + 1 = 5) rfl rfl ?_
    refine k_iload_n (i := 1) dX11_passHours_5 (rfl : 5 + 1 = 6) rfl rfl ?_
    refine k_icmp_ge (tgt := 28) dX11_passHours_6 (rfl : 6 + 3 = 9) (by decide) (fun b6 => by exact absurd b6 (cl_nle (by omega))) (fun b6 => ?_)
    refine k_iload_n (i := 2) dX11_passHours_9 (rfl : 9 + 1 = 10) rfl rfl ?_
    refine k_aload_n (i := 0) dX11_passHours_10 (rfl : 10 + 1 = 11) rfl rfl ?_
    refine k_get 11 0 fg_X11_12 dX11_passHours_11 (rfl : 11 + 3 = 14) (Nat.le_of_ble_eq_true rfl) rfl rfl ?_
    refine k_get 9 1 fg_X11_260 dX11_passHours_14 (rfl : 14 + 3 = 17) (Nat.le_of_ble_eq_true rfl) rfl rfl ?_
    refine k_callVd0 cv_X11_496 ⟨Nat.le_of_ble_eq_true rfl, Nat.le_of_ble_eq_true rfl⟩ (m_X3_passHour iv) dX11_passHours_17 (rfl : 17 + 3 = 20) (Nat.le_of_ble_eq_true rfl) rfl rfl rfl ⟨Nat.le_of_ble_eq_true rfl, Nat.le_of_ble_eq_true rfl⟩ ?_
    refine k_iadd dX11_passHours_20 (rfl : 20 + 1 = 21) ?_
    refine k_istore_n (i := 2) dX11_passHours_21 (rfl : 21 + 1 = 22) rfl (Nat.le_of_ble_eq_true rfl) ?_
    refine k_ls (ls2 := [.ref 0, .int a, .int (s + (f_X3_passHour x)), .int (nI j)]) rfl ?_
    refine k_iinc (i := 3) (v := (nI (j + 1))) dX11_passHours_22 (rfl : 22 + 3 = 25) rfl (Nat.le_of_ble_eq_true rfl) (nI_1 _) ?_
    refine k_ls (ls2 := [.ref 0, .int a, .int (s + (f_X3_passHour x)), .int (nI (j + 1))]) rfl ?_
    refine k_goto (tgt := 4) dX11_passHours_25 (by decide) ?_
    rw [paL] at hx
    exact ih (g_X3_passHour x) (j + 1) (s + (f_X3_passHour x)) (by omega) (iv_pass iv) hx
def f_X11_passHours (x : kK) (a1 : Int32) : Int32 := (paL a1 (Int32.toNatClampNeg a1) x 0 0).2
def g_X11_passHours (x : kK) (a1 : Int32) : kK := (paL a1 (Int32.toNatClampNeg a1) x 0 0).1
set_option maxRecDepth 100000 in
set_option maxHeartbeats 4000000 in
theorem m_X11_passHours {x : kK} {r : kH} {a1 : Int32} (iv : kIv (x.1 0)) : kMet kX11_passHours false 0 0 [.ref 0, .int a1] (kTp (kHc x) r) 130 (kRt (some (.int (f_X11_passHours x a1))) (kTp (kHc (g_X11_passHours x a1)) r) 130) := by
  refine kMet.in (by decide) rfl rfl _ rfl ?_
  refine k_iconst (v := 0) dX11_passHours_0 (rfl : 0 + 1 = 1) (by decide) ?_
  refine k_istore_n (i := 2) dX11_passHours_1 (rfl : 1 + 1 = 2) rfl (Nat.le_of_ble_eq_true rfl) ?_
  refine k_ls (ls2 := [.ref 0, .int a1, .int 0, .retAddr 0]) rfl ?_
  refine k_iconst (v := 0) dX11_passHours_2 (rfl : 2 + 1 = 3) (by decide) ?_
  refine k_istore_n (i := 3) dX11_passHours_3 (rfl : 3 + 1 = 4) rfl (Nat.le_of_ble_eq_true rfl) ?_
  refine k_ls (ls2 := [.ref 0, .int a1, .int 0, .int 0]) rfl ?_
  refine lpaL (a := a1) (Int32.toNatClampNeg a1) x 0 0 (by omega) iv (fun z3 => ?_)
  generalize hw4 : (paL a1 (Int32.toNatClampNeg a1) x 0 0) = w4
  refine k_iload_n (i := 2) dX11_passHours_28 (rfl : 28 + 1 = 29) rfl rfl ?_
  refine k_iret rfl rfl dX11_passHours_29 (Nat.le_of_ble_eq_true rfl) (Nat.le_of_ble_eq_true rfl) ?_
  subst hw4
  exact kRt_of rfl rfl
/-- how many wait in the queue of cells -/
def kWt (w : Int32) : Prop := ∃ m : Nat, m ≤ 64 ∧ w = nI m
theorem wt_in {w : Int32} (h : kWt w) (h1 : ¬ 64 ≤ w) : vp_in w 64 := by
  obtain ⟨m, hm, rfl⟩ := h
  refine vp_in_nI ?_ (by omega)
  rcases Nat.lt_or_ge m 64 with q | q
  · exact q
  · exact absurd (nI_le (a := 64) (b := m) q (by omega)) h1
theorem wt_up {w : Int32} (h : kWt w) (h1 : ¬ 64 ≤ w) : kWt (w + 1) := by
  obtain ⟨m, hm, rfl⟩ := h
  refine ⟨m + 1, ?_, nI_1 m⟩
  rcases Nat.lt_or_ge m 64 with q | q
  · omega
  · exact absurd (nI_le (a := 64) (b := m) q (by omega)) h1
def cqI (a : Int32) (i : Nat) : Nat → kK → Nat → Int64 → Int32 → kK × Int64 × Int32
  | 0, x, j, s, w => (x, s, w)
  | k + 1, x, j, s, w => if (lg_cmp ((Int64.toUInt64 s >>> (Int64.toUInt64 (Int32.toInt64 (f_X11_neighbour ((x.2.2.1 8) (Int32.toNatClampNeg (nI i))) (nI (2 * j)))) &&& Int64.toUInt64 63)).toInt64 &&& 1) 0) = 0 then (if (b2i (bitA (x.1 0).1 (f_X11_neighbour ((x.2.2.1 8) (Int32.toNatClampNeg (nI i))) (nI (2 * j))))) = 0 then (if 64 ≤ w then (cqI a i k x (j + 1) s w) else (cqI a i k (kkR x 8 (upd (x.2.2.1 8) (Int32.toNatClampNeg w) (f_X11_neighbour ((x.2.2.1 8) (Int32.toNatClampNeg (nI i))) (nI (2 * j))))) (j + 1) (s ||| (1 <<< (Int32.toInt64 (f_X11_neighbour ((x.2.2.1 8) (Int32.toNatClampNeg (nI i))) (nI (2 * j))) &&& 63))) (w + Int32.ofInt 1))) else (cqI a i k x (j + 1) s w)) else (cqI a i k x (j + 1) s w)
set_option maxRecDepth 100000 in
set_option maxHeartbeats 4000000 in
theorem lcqI {r : kH} {Q : kQ} {a : Int32} {i : Nat}  (hi : i < 64) : ∀ (k : Nat) (x : kK) (j : Nat) (s : Int64) (w : Int32) (t8 : Value) (t9 : Value), j + k = 4 → kWt w → (∀ (z7 : Value) (z8 : Value) (z9 : Value), kEv kX11_connectedByQueue (kRm kX11_connectedByQueue 0 0) (kFm false 0 0 (Q)) false 137 [.ref 0, .int a, .ref 2, .long (cqI a i k x j s w).2.1, .retAddr 0, .int (cqI a i k x j s w).2.2, .int (nI i), z7, z8, z9] [] (kTp (kHc (cqI a i k x j s w).1) r) 130 0 0) → kEv kX11_connectedByQueue (kRm kX11_connectedByQueue 0 0) (kFm false 0 0 (Q)) false 52 [.ref 0, .int a, .ref 2, .long s, .retAddr 0, .int w, .int (nI i), .int (nI (2 * j)), t8, t9] [] (kTp (kHc x) r) 130 0 0 := by
  intro k
  induction k with
  | zero =>
    intro x j s w t8 t9 hj hw hx
    refine k_iload (i := 7) dX11_connectedByQueue_52 (rfl : 52 + 2 = 54) rfl ?_
    refine k_bipush (v := 8) dX11_connectedByQueue_54 (rfl : 54 + 2 = 56) (by decide) ?_
    refine k_icmp_ge (tgt := 137) dX11_connectedByQueue_56 (rfl : 56 + 3 = 59) (by decide) (fun b56 => ?_) (fun b56 => by exact absurd (nI_le (a := 8) (b := (2 * j)) (by omega) (by omega)) b56)
    rw [cqI] at hx
    exact hx _ _ _
  | succ k ih =>
    intro x j s w t8 t9 hj hw hx
    refine k_iload (i := 7) dX11_connectedByQueue_52 (rfl : 52 + 2 = 54) rfl ?_
    refine k_bipush (v := 8) dX11_connectedByQueue_54 (rfl : 54 + 2 = 56) (by decide) ?_
    refine k_icmp_ge (tgt := 137) dX11_connectedByQueue_56 (rfl : 56 + 3 = 59) (by decide) (fun b56 => by exact absurd b56 (nI_ge (a := (2 * j)) (b := 8) (by omega) (by decide))) (fun b56 => ?_)
    refine k_aload_n (i := 0) dX11_connectedByQueue_59 (rfl : 59 + 1 = 60) rfl rfl ?_
    refine k_get 11 8 fg_X11_57 dX11_connectedByQueue_60 (rfl : 60 + 3 = 63) (Nat.le_of_ble_eq_true rfl) rfl rfl ?_
    refine k_iload (i := 6) dX11_connectedByQueue_63 (rfl : 63 + 2 = 65) rfl ?_
    refine k_iald dX11_connectedByQueue_65 (rfl : 65 + 1 = 66) (Nat.le_of_ble_eq_true rfl) rfl (vp_in_nI hi (by omega)) ?_
    refine k_iload (i := 7) dX11_connectedByQueue_66 (rfl : 66 + 2 = 68) rfl ?_
    refine k_callSd2 cv_X11_499 ⟨Nat.le_of_ble_eq_true rfl, Nat.le_of_ble_eq_true rfl⟩ (m_X11_neighbour) dX11_connectedByQueue_68 (rfl : 68 + 3 = 71) rfl ⟨Nat.le_of_ble_eq_true rfl, Nat.le_of_ble_eq_true rfl⟩ ?_
    refine k_istore (i := 8) dX11_connectedByQueue_71 (rfl : 71 + 2 = 73) (Nat.le_of_ble_eq_true rfl) ?_
    refine k_ls (ls2 := [.ref 0, .int a, .ref 2, .long s, .retAddr 0, .int w, .int (nI i), .int (nI (2 * j)), .int (f_X11_neighbour ((x.2.2.1 8) (Int32.toNatClampNeg (nI i))) (nI (2 * j))), t9]) rfl ?_
    refine k_lload_n (i := 3) dX11_connectedByQueue_73 (rfl : 73 + 1 = 74) rfl rfl ?_
    refine k_iload (i := 8) dX11_connectedByQueue_74 (rfl : 74 + 2 = 76) rfl ?_
    refine k_lushr dX11_connectedByQueue_76 (rfl : 76 + 1 = 77) ?_
    refine k_lconst (v := 1) dX11_connectedByQueue_77 (rfl : 77 + 1 = 78) (by decide) ?_
    refine k_land dX11_connectedByQueue_78 (rfl : 78 + 1 = 79) ?_
    refine k_lconst (v := 0) dX11_connectedByQueue_79 (rfl : 79 + 1 = 80) (by decide) ?_
    refine k_lcmp dX11_connectedByQueue_80 (rfl : 80 + 1 = 81) ?_
    refine k_if_ne (tgt := 97) dX11_connectedByQueue_81 (rfl : 81 + 3 = 84) (by decide) (fun b81 => ?_) (fun b81 => ?_)
    · refine k_iconst (v := 0) dX11_connectedByQueue_97 (rfl : 97 + 1 = 98) (by decide) ?_
      refine k_istore (i := 9) dX11_connectedByQueue_98 (rfl : 98 + 2 = 100) (Nat.le_of_ble_eq_true rfl) ?_
      refine k_ls (ls2 := [.ref 0, .int a, .ref 2, .long s, .retAddr 0, .int w, .int (nI i), .int (nI (2 * j)), .int (f_X11_neighbour ((x.2.2.1 8) (Int32.toNatClampNeg (nI i))) (nI (2 * j))), .int 0]) rfl ?_
      refine k_iload (i := 9) dX11_connectedByQueue_100 (rfl : 100 + 2 = 102) rfl ?_
      refine k_if_eq (tgt := 131) dX11_connectedByQueue_102 (rfl : 102 + 3 = 105) (by decide) (fun b102 => ?_) (fun b102 => by exact absurd (by decide) b102)
      refine k_iinc (i := 7) (v := (nI (2 * (j + 1)))) dX11_connectedByQueue_131 (rfl : 131 + 3 = 134) rfl (Nat.le_of_ble_eq_true rfl) ((nI_add (2 * j) 2)) ?_
      refine k_ls (ls2 := [.ref 0, .int a, .ref 2, .long s, .retAddr 0, .int w, .int (nI i), .int (nI (2 * (j + 1))), .int (f_X11_neighbour ((x.2.2.1 8) (Int32.toNatClampNeg (nI i))) (nI (2 * j))), .int 0]) rfl ?_
      refine k_goto (tgt := 52) dX11_connectedByQueue_134 (by decide) ?_
      rw [cqI, if_neg (show ¬ ((lg_cmp ((Int64.toUInt64 s >>> (Int64.toUInt64 (Int32.toInt64 (f_X11_neighbour ((x.2.2.1 8) (Int32.toNatClampNeg (nI i))) (nI (2 * j)))) &&& Int64.toUInt64 63)).toInt64 &&& 1) 0) = 0) from b81)] at hx
      exact ih x (j + 1) s w _ _ (by omega) hw hx
    · refine k_aload_n (i := 2) dX11_connectedByQueue_84 (rfl : 84 + 1 = 85) rfl rfl ?_
      refine k_iload (i := 8) dX11_connectedByQueue_85 (rfl : 85 + 2 = 87) rfl ?_
      refine k_callVd1 cv_X11_444 ⟨Nat.le_of_ble_eq_true rfl, Nat.le_of_ble_eq_true rfl⟩ (m_X10_hasTree) dX11_connectedByQueue_87 (rfl : 87 + 3 = 90) (Nat.le_of_ble_eq_true rfl) rfl rfl rfl ⟨Nat.le_of_ble_eq_true rfl, Nat.le_of_ble_eq_true rfl⟩ ?_
      refine k_if_ne (tgt := 97) dX11_connectedByQueue_90 (rfl : 90 + 3 = 93) (by decide) (fun b90 => ?_) (fun b90 => ?_)
      · refine k_iconst (v := 0) dX11_connectedByQueue_97 (rfl : 97 + 1 = 98) (by decide) ?_
        refine k_istore (i := 9) dX11_connectedByQueue_98 (rfl : 98 + 2 = 100) (Nat.le_of_ble_eq_true rfl) ?_
        refine k_ls (ls2 := [.ref 0, .int a, .ref 2, .long s, .retAddr 0, .int w, .int (nI i), .int (nI (2 * j)), .int (f_X11_neighbour ((x.2.2.1 8) (Int32.toNatClampNeg (nI i))) (nI (2 * j))), .int 0]) rfl ?_
        refine k_iload (i := 9) dX11_connectedByQueue_100 (rfl : 100 + 2 = 102) rfl ?_
        refine k_if_eq (tgt := 131) dX11_connectedByQueue_102 (rfl : 102 + 3 = 105) (by decide) (fun b102 => ?_) (fun b102 => by exact absurd (by decide) b102)
        refine k_iinc (i := 7) (v := (nI (2 * (j + 1)))) dX11_connectedByQueue_131 (rfl : 131 + 3 = 134) rfl (Nat.le_of_ble_eq_true rfl) ((nI_add (2 * j) 2)) ?_
        refine k_ls (ls2 := [.ref 0, .int a, .ref 2, .long s, .retAddr 0, .int w, .int (nI i), .int (nI (2 * (j + 1))), .int (f_X11_neighbour ((x.2.2.1 8) (Int32.toNatClampNeg (nI i))) (nI (2 * j))), .int 0]) rfl ?_
        refine k_goto (tgt := 52) dX11_connectedByQueue_134 (by decide) ?_
        rw [cqI, if_pos (show (lg_cmp ((Int64.toUInt64 s >>> (Int64.toUInt64 (Int32.toInt64 (f_X11_neighbour ((x.2.2.1 8) (Int32.toNatClampNeg (nI i))) (nI (2 * j)))) &&& Int64.toUInt64 63)).toInt64 &&& 1) 0) = 0 from b81), if_neg (show ¬ ((b2i (bitA (x.1 0).1 (f_X11_neighbour ((x.2.2.1 8) (Int32.toNatClampNeg (nI i))) (nI (2 * j))))) = 0) from b90)] at hx
        exact ih x (j + 1) s w _ _ (by omega) hw hx
      · refine k_iconst (v := 1) dX11_connectedByQueue_93 (rfl : 93 + 1 = 94) (by decide) ?_
        refine k_goto (tgt := 98) dX11_connectedByQueue_94 (by decide) ?_
        refine k_istore (i := 9) dX11_connectedByQueue_98 (rfl : 98 + 2 = 100) (Nat.le_of_ble_eq_true rfl) ?_
        refine k_ls (ls2 := [.ref 0, .int a, .ref 2, .long s, .retAddr 0, .int w, .int (nI i), .int (nI (2 * j)), .int (f_X11_neighbour ((x.2.2.1 8) (Int32.toNatClampNeg (nI i))) (nI (2 * j))), .int 1]) rfl ?_
        refine k_iload (i := 9) dX11_connectedByQueue_100 (rfl : 100 + 2 = 102) rfl ?_
        refine k_if_eq (tgt := 131) dX11_connectedByQueue_102 (rfl : 102 + 3 = 105) (by decide) (fun b102 => by exact absurd b102 (by decide)) (fun b102 => ?_)
        refine k_iload (i := 5) dX11_connectedByQueue_105 (rfl : 105 + 2 = 107) rfl ?_
        refine k_bipush (v := 64) dX11_connectedByQueue_107 (rfl : 107 + 2 = 109) (by decide) ?_
        refine k_icmp_ge (tgt := 131) dX11_connectedByQueue_109 (rfl : 109 + 3 = 112) (by decide) (fun b109 => ?_) (fun b109 => ?_)
        · refine k_iinc (i := 7) (v := (nI (2 * (j + 1)))) dX11_connectedByQueue_131 (rfl : 131 + 3 = 134) rfl (Nat.le_of_ble_eq_true rfl) ((nI_add (2 * j) 2)) ?_
          refine k_ls (ls2 := [.ref 0, .int a, .ref 2, .long s, .retAddr 0, .int w, .int (nI i), .int (nI (2 * (j + 1))), .int (f_X11_neighbour ((x.2.2.1 8) (Int32.toNatClampNeg (nI i))) (nI (2 * j))), .int 1]) rfl ?_
          refine k_goto (tgt := 52) dX11_connectedByQueue_134 (by decide) ?_
          rw [cqI, if_pos (show (lg_cmp ((Int64.toUInt64 s >>> (Int64.toUInt64 (Int32.toInt64 (f_X11_neighbour ((x.2.2.1 8) (Int32.toNatClampNeg (nI i))) (nI (2 * j)))) &&& Int64.toUInt64 63)).toInt64 &&& 1) 0) = 0 from b81), if_pos (show (b2i (bitA (x.1 0).1 (f_X11_neighbour ((x.2.2.1 8) (Int32.toNatClampNeg (nI i))) (nI (2 * j))))) = 0 from b90), if_pos (show 64 ≤ w from b109)] at hx
          exact ih x (j + 1) s w _ _ (by omega) hw hx
        · refine k_lload_n (i := 3) dX11_connectedByQueue_112 (rfl : 112 + 1 = 113) rfl rfl ?_
          refine k_lconst (v := 1) dX11_connectedByQueue_113 (rfl : 113 + 1 = 114) (by decide) ?_
          refine k_iload (i := 8) dX11_connectedByQueue_114 (rfl : 114 + 2 = 116) rfl ?_
          refine k_lshl dX11_connectedByQueue_116 (rfl : 116 + 1 = 117) ?_
          refine k_lor dX11_connectedByQueue_117 (rfl : 117 + 1 = 118) ?_
          refine k_lstore_n (i := 3) dX11_connectedByQueue_118 (rfl : 118 + 1 = 119) rfl (Nat.le_of_ble_eq_true rfl) ?_
          refine k_ls (ls2 := [.ref 0, .int a, .ref 2, .long (s ||| (1 <<< (Int32.toInt64 (f_X11_neighbour ((x.2.2.1 8) (Int32.toNatClampNeg (nI i))) (nI (2 * j))) &&& 63))), .retAddr 0, .int w, .int (nI i), .int (nI (2 * j)), .int (f_X11_neighbour ((x.2.2.1 8) (Int32.toNatClampNeg (nI i))) (nI (2 * j))), .int 1]) rfl ?_
          refine k_aload_n (i := 0) dX11_connectedByQueue_119 (rfl : 119 + 1 = 120) rfl rfl ?_
          refine k_get 11 8 fg_X11_57 dX11_connectedByQueue_120 (rfl : 120 + 3 = 123) (Nat.le_of_ble_eq_true rfl) rfl rfl ?_
          refine k_iload (i := 5) dX11_connectedByQueue_123 (rfl : 123 + 2 = 125) rfl ?_
          refine k_iload (i := 8) dX11_connectedByQueue_125 (rfl : 125 + 2 = 127) rfl ?_
          refine k_iast dX11_connectedByQueue_127 (rfl : 127 + 1 = 128) (Nat.le_of_ble_eq_true rfl) rfl (wt_in hw b109) ?_
          refine kf_X8 (f := (upd (x.2.2.1 8) (Int32.toNatClampNeg w) (f_X11_neighbour ((x.2.2.1 8) (Int32.toNatClampNeg (nI i))) (nI (2 * j))))) rfl ?_
          refine k_iinc (i := 5) dX11_connectedByQueue_128 (rfl : 128 + 3 = 131) rfl (Nat.le_of_ble_eq_true rfl) rfl ?_
          refine k_ls (ls2 := [.ref 0, .int a, .ref 2, .long (s ||| (1 <<< (Int32.toInt64 (f_X11_neighbour ((x.2.2.1 8) (Int32.toNatClampNeg (nI i))) (nI (2 * j))) &&& 63))), .retAddr 0, .int (w + Int32.ofInt 1), .int (nI i), .int (nI (2 * j)), .int (f_X11_neighbour ((x.2.2.1 8) (Int32.toNatClampNeg (nI i))) (nI (2 * j))), .int 1]) rfl ?_
          refine k_iinc (i := 7) (v := (nI (2 * (j + 1)))) dX11_connectedByQueue_131 (rfl : 131 + 3 = 134) rfl (Nat.le_of_ble_eq_true rfl) ((nI_add (2 * j) 2)) ?_
          refine k_ls (ls2 := [.ref 0, .int a, .ref 2, .long (s ||| (1 <<< (Int32.toInt64 (f_X11_neighbour ((x.2.2.1 8) (Int32.toNatClampNeg (nI i))) (nI (2 * j))) &&& 63))), .retAddr 0, .int (w + Int32.ofInt 1), .int (nI i), .int (nI (2 * (j + 1))), .int (f_X11_neighbour ((x.2.2.1 8) (Int32.toNatClampNeg (nI i))) (nI (2 * j))), .int 1]) rfl ?_
          refine k_goto (tgt := 52) dX11_connectedByQueue_134 (by decide) ?_
          rw [cqI, if_pos (show (lg_cmp ((Int64.toUInt64 s >>> (Int64.toUInt64 (Int32.toInt64 (f_X11_neighbour ((x.2.2.1 8) (Int32.toNatClampNeg (nI i))) (nI (2 * j)))) &&& Int64.toUInt64 63)).toInt64 &&& 1) 0) = 0 from b81), if_pos (show (b2i (bitA (x.1 0).1 (f_X11_neighbour ((x.2.2.1 8) (Int32.toNatClampNeg (nI i))) (nI (2 * j))))) = 0 from b90), if_neg (show ¬ (64 ≤ w) from b109)] at hx
          exact ih (kkR x 8 (upd (x.2.2.1 8) (Int32.toNatClampNeg w) (f_X11_neighbour ((x.2.2.1 8) (Int32.toNatClampNeg (nI i))) (nI (2 * j))))) (j + 1) (s ||| (1 <<< (Int32.toInt64 (f_X11_neighbour ((x.2.2.1 8) (Int32.toNatClampNeg (nI i))) (nI (2 * j))) &&& 63))) (w + Int32.ofInt 1) _ _ (by omega) (wt_up hw b109) hx
theorem cqI_wt {a : Int32} {i k : Nat} : ∀ {x : kK} {j : Nat} {s : Int64} {w : Int32}, kWt w → kWt (cqI a i k x j s w).2.2 := by
  induction k with
  | zero => intro x j s w h; exact h
  | succ k ih =>
    intro x j s w h
    rw [cqI]
    repeat' split
    all_goals first
      | exact ih h
      | (rename_i h3; exact ih (wt_up h h3))
def cqL (a : Int32) : Nat → kK → Nat → Int64 → Int32 → kK × Int64
  | 0, x, j, s, w => if w ≤ (nI j) then (x, s) else (x, s)
  | k + 1, x, j, s, w => if w ≤ (nI j) then (x, s) else (cqL a k ((cqI a j 4 x 0 s w).1) (j + 1) ((cqI a j 4 x 0 s w).2.1) ((cqI a j 4 x 0 s w).2.2))
set_option maxRecDepth 100000 in
set_option maxHeartbeats 4000000 in
theorem lcqL {r : kH} {Q : kQ} {a : Int32}  : ∀ (k : Nat) (x : kK) (j : Nat) (s : Int64) (w : Int32) (t7 : Value) (t8 : Value) (t9 : Value), j + k = 64 → kWt w → (∀ (z6 : Value) (z5 : Value) (z7 : Value) (z8 : Value) (z9 : Value), kEv kX11_connectedByQueue (kRm kX11_connectedByQueue 0 0) (kFm false 0 0 (Q)) false 143 [.ref 0, .int a, .ref 2, .long (cqL a k x j s w).2, .retAddr 0, z5, z6, z7, z8, z9] [] (kTp (kHc (cqL a k x j s w).1) r) 130 0 0) → kEv kX11_connectedByQueue (kRm kX11_connectedByQueue 0 0) (kFm false 0 0 (Q)) false 35 [.ref 0, .int a, .ref 2, .long s, .retAddr 0, .int w, .int (nI j), t7, t8, t9] [] (kTp (kHc x) r) 130 0 0 := by
  intro k
  induction k with
  | zero =>
    intro x j s w t7 t8 t9 hj hw hx
    refine k_iload (i := 6) dX11_connectedByQueue_35 (rfl : 35 + 2 = 37) rfl ?_
    refine k_iload (i := 5) dX11_connectedByQueue_37 (rfl : 37 + 2 = 39) rfl ?_
    refine k_icmp_ge (tgt := 143) dX11_connectedByQueue_39 (rfl : 39 + 3 = 42) (by decide) (fun b39 => ?_) (fun b39 => ?_)
    · rw [cqL, if_pos (show w ≤ (nI j) from b39)] at hx
      exact hx _ _ _ _ _
    · refine k_iload (i := 6) dX11_connectedByQueue_42 (rfl : 42 + 2 = 44) rfl ?_
      refine k_bipush (v := 64) dX11_connectedByQueue_44 (rfl : 44 + 2 = 46) (by decide) ?_
      refine k_icmp_ge (tgt := 143) dX11_connectedByQueue_46 (rfl : 46 + 3 = 49) (by decide) (fun b46 => ?_) (fun b46 => by exact absurd (nI_le (a := 64) (b := j) (by omega) (by omega)) b46)
      rw [cqL, if_neg (show ¬ (w ≤ (nI j)) from b39)] at hx
      exact hx _ _ _ _ _
  | succ k ih =>
    intro x j s w t7 t8 t9 hj hw hx
    refine k_iload (i := 6) dX11_connectedByQueue_35 (rfl : 35 + 2 = 37) rfl ?_
    refine k_iload (i := 5) dX11_connectedByQueue_37 (rfl : 37 + 2 = 39) rfl ?_
    refine k_icmp_ge (tgt := 143) dX11_connectedByQueue_39 (rfl : 39 + 3 = 42) (by decide) (fun b39 => ?_) (fun b39 => ?_)
    · rw [cqL, if_pos (show w ≤ (nI j) from b39)] at hx
      exact hx _ _ _ _ _
    · refine k_iload (i := 6) dX11_connectedByQueue_42 (rfl : 42 + 2 = 44) rfl ?_
      refine k_bipush (v := 64) dX11_connectedByQueue_44 (rfl : 44 + 2 = 46) (by decide) ?_
      refine k_icmp_ge (tgt := 143) dX11_connectedByQueue_46 (rfl : 46 + 3 = 49) (by decide) (fun b46 => by exact absurd b46 (nI_ge (a := j) (b := 64) (by omega) (by decide))) (fun b46 => ?_)
      refine k_iconst (v := 0) dX11_connectedByQueue_49 (rfl : 49 + 1 = 50) (by decide) ?_
      refine k_istore (i := 7) dX11_connectedByQueue_50 (rfl : 50 + 2 = 52) (Nat.le_of_ble_eq_true rfl) ?_
      refine k_ls (ls2 := [.ref 0, .int a, .ref 2, .long s, .retAddr 0, .int w, .int (nI j), .int 0, t8, t9]) rfl ?_
      refine lcqI (a := a) (i := j) (by omega) 4 x 0 s w _ _ (by omega) hw (fun z7 z8 z9 => ?_)
      generalize hw52 : (cqI a j 4 x 0 s w) = w52
      refine k_iinc (i := 6) (v := (nI (j + 1))) dX11_connectedByQueue_137 (rfl : 137 + 3 = 140) rfl (Nat.le_of_ble_eq_true rfl) (nI_1 _) ?_
      refine k_ls (ls2 := [.ref 0, .int a, .ref 2, .long w52.2.1, .retAddr 0, .int w52.2.2, .int (nI (j + 1)), z7, z8, z9]) rfl ?_
      refine k_goto (tgt := 35) dX11_connectedByQueue_140 (by decide) ?_
      subst hw52
      rw [cqL, if_neg (show ¬ (w ≤ (nI j)) from b39)] at hx
      exact ih ((cqI a j 4 x 0 s w).1) (j + 1) ((cqI a j 4 x 0 s w).2.1) ((cqI a j 4 x 0 s w).2.2) _ _ _ (by omega) (cqI_wt hw) hx
def f_X11_connectedByQueue (x : kK) (a1 : Int32) : Int64 := if (b2i (bitA (x.1 0).1 a1)) = 0 then ((cqL a1 64 (kkR x 8 (upd (x.2.2.1 8) (Int32.toNatClampNeg 0) a1)) 0 (1 <<< (Int32.toInt64 a1 &&& 63)) 1).2) else 0
def g_X11_connectedByQueue (x : kK) (a1 : Int32) : kK := if (b2i (bitA (x.1 0).1 a1)) = 0 then ((cqL a1 64 (kkR x 8 (upd (x.2.2.1 8) (Int32.toNatClampNeg 0) a1)) 0 (1 <<< (Int32.toInt64 a1 &&& 63)) 1).1) else x
set_option maxRecDepth 100000 in
set_option maxHeartbeats 4000000 in
theorem m_X11_connectedByQueue {x : kK} {r : kH} {a1 : Int32} : kMet kX11_connectedByQueue false 0 0 [.ref 0, .int a1] (kTp (kHc x) r) 130 (kRt (some (.long (f_X11_connectedByQueue x a1))) (kTp (kHc (g_X11_connectedByQueue x a1)) r) 130) := by
  refine kMet.in (by decide) rfl rfl _ rfl ?_
  refine k_aload_n (i := 0) dX11_connectedByQueue_0 (rfl : 0 + 1 = 1) rfl rfl ?_
  refine k_get 11 0 fg_X11_12 dX11_connectedByQueue_1 (rfl : 1 + 3 = 4) (Nat.le_of_ble_eq_true rfl) rfl rfl ?_
  refine k_get 9 0 fg_X11_100 dX11_connectedByQueue_4 (rfl : 4 + 3 = 7) (Nat.le_of_ble_eq_true rfl) rfl rfl ?_
  refine k_astore_n (i := 2) dX11_connectedByQueue_7 (rfl : 7 + 1 = 8) rfl (Nat.le_of_ble_eq_true rfl) ?_
  refine k_ls (ls2 := [.ref 0, .int a1, .ref 2, .retAddr 0, .retAddr 0, .retAddr 0, .retAddr 0, .retAddr 0, .retAddr 0, .retAddr 0]) rfl ?_
  refine k_aload_n (i := 2) dX11_connectedByQueue_8 (rfl : 8 + 1 = 9) rfl rfl ?_
  refine k_iload_n (i := 1) dX11_connectedByQueue_9 (rfl : 9 + 1 = 10) rfl rfl ?_
  refine k_callVd1 cv_X11_444 ⟨Nat.le_of_ble_eq_true rfl, Nat.le_of_ble_eq_true rfl⟩ (m_X10_hasTree) dX11_connectedByQueue_10 (rfl : 10 + 3 = 13) (Nat.le_of_ble_eq_true rfl) rfl rfl rfl ⟨Nat.le_of_ble_eq_true rfl, Nat.le_of_ble_eq_true rfl⟩ ?_
  refine k_if_eq (tgt := 18) dX11_connectedByQueue_13 (rfl : 13 + 3 = 16) (by decide) (fun b13 => ?_) (fun b13 => ?_)
  · refine k_lconst (v := 1) dX11_connectedByQueue_18 (rfl : 18 + 1 = 19) (by decide) ?_
    refine k_iload_n (i := 1) dX11_connectedByQueue_19 (rfl : 19 + 1 = 20) rfl rfl ?_
    refine k_lshl dX11_connectedByQueue_20 (rfl : 20 + 1 = 21) ?_
    refine k_lstore_n (i := 3) dX11_connectedByQueue_21 (rfl : 21 + 1 = 22) rfl (Nat.le_of_ble_eq_true rfl) ?_
    refine k_ls (ls2 := [.ref 0, .int a1, .ref 2, .long (1 <<< (Int32.toInt64 a1 &&& 63)), .retAddr 0, .retAddr 0, .retAddr 0, .retAddr 0, .retAddr 0, .retAddr 0]) rfl ?_
    refine k_aload_n (i := 0) dX11_connectedByQueue_22 (rfl : 22 + 1 = 23) rfl rfl ?_
    refine k_get 11 8 fg_X11_57 dX11_connectedByQueue_23 (rfl : 23 + 3 = 26) (Nat.le_of_ble_eq_true rfl) rfl rfl ?_
    refine k_iconst (v := 0) dX11_connectedByQueue_26 (rfl : 26 + 1 = 27) (by decide) ?_
    refine k_iload_n (i := 1) dX11_connectedByQueue_27 (rfl : 27 + 1 = 28) rfl rfl ?_
    refine k_iast dX11_connectedByQueue_28 (rfl : 28 + 1 = 29) (Nat.le_of_ble_eq_true rfl) rfl (vp_in_nI (n := 0) (N := 64) (by decide) (by decide)) ?_
    refine kf_X8 (f := (upd (x.2.2.1 8) (Int32.toNatClampNeg 0) a1)) rfl ?_
    refine k_iconst (v := 1) dX11_connectedByQueue_29 (rfl : 29 + 1 = 30) (by decide) ?_
    refine k_istore (i := 5) dX11_connectedByQueue_30 (rfl : 30 + 2 = 32) (Nat.le_of_ble_eq_true rfl) ?_
    refine k_ls (ls2 := [.ref 0, .int a1, .ref 2, .long (1 <<< (Int32.toInt64 a1 &&& 63)), .retAddr 0, .int 1, .retAddr 0, .retAddr 0, .retAddr 0, .retAddr 0]) rfl ?_
    refine k_iconst (v := 0) dX11_connectedByQueue_32 (rfl : 32 + 1 = 33) (by decide) ?_
    refine k_istore (i := 6) dX11_connectedByQueue_33 (rfl : 33 + 2 = 35) (Nat.le_of_ble_eq_true rfl) ?_
    refine k_ls (ls2 := [.ref 0, .int a1, .ref 2, .long (1 <<< (Int32.toInt64 a1 &&& 63)), .retAddr 0, .int 1, .int 0, .retAddr 0, .retAddr 0, .retAddr 0]) rfl ?_
    refine lcqL (a := a1) 64 (kkR x 8 (upd (x.2.2.1 8) (Int32.toNatClampNeg 0) a1)) 0 (1 <<< (Int32.toInt64 a1 &&& 63)) 1 _ _ _ (by omega) ⟨1, by omega, rfl⟩ (fun z6 z5 z7 z8 z9 => ?_)
    generalize hw35 : (cqL a1 64 (kkR x 8 (upd (x.2.2.1 8) (Int32.toNatClampNeg 0) a1)) 0 (1 <<< (Int32.toInt64 a1 &&& 63)) 1) = w35
    refine k_lload_n (i := 3) dX11_connectedByQueue_143 (rfl : 143 + 1 = 144) rfl rfl ?_
    refine k_lret rfl dX11_connectedByQueue_144 (Nat.le_of_ble_eq_true rfl) (Nat.le_of_ble_eq_true rfl) ?_
    subst hw35
    exact kRt_of (congrArg (fun z => some (Value.long z)) (Eq.symm (if_pos (show (b2i (bitA (x.1 0).1 a1)) = 0 from b13)))) (congrArg (fun z => kTp (kHc z) r) (Eq.symm (if_pos (show (b2i (bitA (x.1 0).1 a1)) = 0 from b13))))
  · refine k_lconst (v := 0) dX11_connectedByQueue_16 (rfl : 16 + 1 = 17) (by decide) ?_
    refine k_lret rfl dX11_connectedByQueue_17 (Nat.le_of_ble_eq_true rfl) (Nat.le_of_ble_eq_true rfl) ?_
    exact kRt_of (congrArg (fun z => some (Value.long z)) (Eq.symm (if_neg (show ¬ ((b2i (bitA (x.1 0).1 a1)) = 0) from b13)))) (congrArg (fun z => kTp (kHc z) r) (Eq.symm (if_neg (show ¬ ((b2i (bitA (x.1 0).1 a1)) = 0) from b13))))
theorem nI_nlt0 {j : Nat} (h : j < 2 ^ 31) : ¬ nI j < 0 := by
  rw [Int32.lt_iff_toInt_lt, nI_toInt h]
  exact Int.not_lt.mpr (Int.natCast_nonneg j)
theorem nI_lt64 {j : Nat} (h : j < 64) : nI j < 64 := by
  rw [Int32.lt_iff_toInt_lt, nI_toInt (by omega)]
  exact Int.ofNat_lt.mpr h
def qsL (c : Int32) : Nat → kK → Nat → Int32 → Int32 → kK × Int32
  | 0, x, j, b, s => (x, b)
  | k + 1, x, j, b, s => if (pFind ((g_X4_fly x (nI j)).2.2.1 0) c (Int32.toNatClampNeg ((g_X4_fly x (nI j)).2.1 2)) 1) = (-1) then (qsL c k (g_X4_fly x (nI j)) (j + 1) b s) else (if b = (-1) then (if b = (-1) then (qsL c k (g_X4_fly x (nI j)) (j + 1) (nI j) (pFind ((g_X4_fly x (nI j)).2.2.1 0) c (Int32.toNatClampNeg ((g_X4_fly x (nI j)).2.1 2)) 1)) else (if (f_X11_armOf (nI j)) = (f_X11_armOf b) then (if s ≤ (pFind ((g_X4_fly x (nI j)).2.2.1 0) c (Int32.toNatClampNeg ((g_X4_fly x (nI j)).2.1 2)) 1) then (qsL c k (g_X4_fly x (nI j)) (j + 1) (nI j) (pFind ((g_X4_fly x (nI j)).2.2.1 0) c (Int32.toNatClampNeg ((g_X4_fly x (nI j)).2.1 2)) 1)) else (qsL c k (g_X4_fly x (nI j)) (j + 1) (nI j) (pFind ((g_X4_fly x (nI j)).2.2.1 0) c (Int32.toNatClampNeg ((g_X4_fly x (nI j)).2.1 2)) 1))) else (qsL c k (g_X4_fly x (nI j)) (j + 1) (nI j) (pFind ((g_X4_fly x (nI j)).2.2.1 0) c (Int32.toNatClampNeg ((g_X4_fly x (nI j)).2.1 2)) 1)))) else (if (f_X11_armOf b) ≤ (f_X11_armOf (nI j)) then (if b = (-1) then (qsL c k (g_X4_fly x (nI j)) (j + 1) b s) else (if (f_X11_armOf (nI j)) = (f_X11_armOf b) then (if s ≤ (pFind ((g_X4_fly x (nI j)).2.2.1 0) c (Int32.toNatClampNeg ((g_X4_fly x (nI j)).2.1 2)) 1) then (qsL c k (g_X4_fly x (nI j)) (j + 1) b s) else (qsL c k (g_X4_fly x (nI j)) (j + 1) (nI j) (pFind ((g_X4_fly x (nI j)).2.2.1 0) c (Int32.toNatClampNeg ((g_X4_fly x (nI j)).2.1 2)) 1))) else (qsL c k (g_X4_fly x (nI j)) (j + 1) b s))) else (if b = (-1) then (qsL c k (g_X4_fly x (nI j)) (j + 1) (nI j) (pFind ((g_X4_fly x (nI j)).2.2.1 0) c (Int32.toNatClampNeg ((g_X4_fly x (nI j)).2.1 2)) 1)) else (if (f_X11_armOf (nI j)) = (f_X11_armOf b) then (if s ≤ (pFind ((g_X4_fly x (nI j)).2.2.1 0) c (Int32.toNatClampNeg ((g_X4_fly x (nI j)).2.1 2)) 1) then (qsL c k (g_X4_fly x (nI j)) (j + 1) (nI j) (pFind ((g_X4_fly x (nI j)).2.2.1 0) c (Int32.toNatClampNeg ((g_X4_fly x (nI j)).2.1 2)) 1)) else (qsL c k (g_X4_fly x (nI j)) (j + 1) (nI j) (pFind ((g_X4_fly x (nI j)).2.2.1 0) c (Int32.toNatClampNeg ((g_X4_fly x (nI j)).2.1 2)) 1))) else (qsL c k (g_X4_fly x (nI j)) (j + 1) (nI j) (pFind ((g_X4_fly x (nI j)).2.2.1 0) c (Int32.toNatClampNeg ((g_X4_fly x (nI j)).2.1 2)) 1))))))
set_option maxRecDepth 100000 in
set_option maxHeartbeats 4000000 in
theorem lqsL {r : kH} {Q : kQ} {c : Int32}  : ∀ (k : Nat) (x : kK) (j : Nat) (b : Int32) (s : Int32) (t5 : Value) (t6 : Value) (t7 : Value), j + k = 64 → (∀ (z4 : Value) (z3 : Value) (z5 : Value) (z6 : Value) (z7 : Value), kEv kX11_quickestShortestThrow (kRm kX11_quickestShortestThrow 0 0) (kFm false 0 0 (Q)) false 125 [.ref 0, .int c, .int (qsL c k x j b s).2, z3, z4, z5, z6, z7] [] (kTp (kHc (qsL c k x j b s).1) r) 130 0 0) → kEv kX11_quickestShortestThrow (kRm kX11_quickestShortestThrow 0 0) (kFm false 0 0 (Q)) false 7 [.ref 0, .int c, .int b, .int s, .int (nI j), t5, t6, t7] [] (kTp (kHc x) r) 130 0 0 := by
  intro k
  induction k with
  | zero =>
    intro x j b s t5 t6 t7 hj hx
    refine k_iload (i := 4) dX11_quickestShortestThrow_7 (rfl : 7 + 2 = 9) rfl ?_
    refine k_bipush (v := 64) dX11_quickestShortestThrow_9 (rfl : 9 + 2 = 11) (by decide) ?_
    refine k_icmp_ge (tgt := 125) dX11_quickestShortestThrow_11 (rfl : 11 + 3 = 14) (by decide) (fun b11 => ?_) (fun b11 => by exact absurd (nI_le (a := 64) (b := j) (by omega) (by omega)) b11)
    rw [qsL] at hx
    exact hx _ _ _ _ _
  | succ k ih =>
    intro x j b s t5 t6 t7 hj hx
    refine k_iload (i := 4) dX11_quickestShortestThrow_7 (rfl : 7 + 2 = 9) rfl ?_
    refine k_bipush (v := 64) dX11_quickestShortestThrow_9 (rfl : 9 + 2 = 11) (by decide) ?_
    refine k_icmp_ge (tgt := 125) dX11_quickestShortestThrow_11 (rfl : 11 + 3 = 14) (by decide) (fun b11 => by exact absurd b11 (nI_ge (a := j) (b := 64) (by omega) (by decide))) (fun b11 => ?_)
    refine k_aload_n (i := 0) dX11_quickestShortestThrow_14 (rfl : 14 + 1 = 15) rfl rfl ?_
    refine k_get 11 4 fg_X11_32 dX11_quickestShortestThrow_15 (rfl : 15 + 3 = 18) (Nat.le_of_ble_eq_true rfl) rfl rfl ?_
    refine k_aload_n (i := 0) dX11_quickestShortestThrow_18 (rfl : 18 + 1 = 19) rfl rfl ?_
    refine k_get 11 0 fg_X11_12 dX11_quickestShortestThrow_19 (rfl : 19 + 3 = 22) (Nat.le_of_ble_eq_true rfl) rfl rfl ?_
    refine k_get 9 0 fg_X11_100 dX11_quickestShortestThrow_22 (rfl : 22 + 3 = 25) (Nat.le_of_ble_eq_true rfl) rfl rfl ?_
    refine k_iload (i := 4) dX11_quickestShortestThrow_25 (rfl : 25 + 2 = 27) rfl ?_
    refine k_callVv2 cv_X11_204 ⟨Nat.le_of_ble_eq_true rfl, Nat.le_of_ble_eq_true rfl⟩ (m_X4_fly (nI_nlt0 (by omega)) (nI_lt64 (by omega))) dX11_quickestShortestThrow_27 (rfl : 27 + 3 = 30) (Nat.le_of_ble_eq_true rfl) rfl rfl rfl ⟨Nat.le_of_ble_eq_true rfl, Nat.le_of_ble_eq_true rfl⟩ ?_
    generalize hg1 : (g_X4_fly x (nI j)) = y1
    refine k_aload_n (i := 0) dX11_quickestShortestThrow_30 (rfl : 30 + 1 = 31) rfl rfl ?_
    refine k_get 11 4 fg_X11_32 dX11_quickestShortestThrow_31 (rfl : 31 + 3 = 34) (Nat.le_of_ble_eq_true rfl) rfl rfl ?_
    refine k_iload_n (i := 1) dX11_quickestShortestThrow_34 (rfl : 34 + 1 = 35) rfl rfl ?_
    refine k_callVd1 cv_X11_223 ⟨Nat.le_of_ble_eq_true rfl, Nat.le_of_ble_eq_true rfl⟩ (m_X4_stepsTo (by rw [← hg1]; exact fly_ok.1)) dX11_quickestShortestThrow_35 (rfl : 35 + 3 = 38) (Nat.le_of_ble_eq_true rfl) rfl rfl rfl ⟨Nat.le_of_ble_eq_true rfl, Nat.le_of_ble_eq_true rfl⟩ ?_
    refine k_istore (i := 5) dX11_quickestShortestThrow_38 (rfl : 38 + 2 = 40) (Nat.le_of_ble_eq_true rfl) ?_
    refine k_ls (ls2 := [.ref 0, .int c, .int b, .int s, .int (nI j), .int (pFind (y1.2.2.1 0) c (Int32.toNatClampNeg (y1.2.1 2)) 1), t6, t7]) rfl ?_
    refine k_iload (i := 5) dX11_quickestShortestThrow_40 (rfl : 40 + 2 = 42) rfl ?_
    refine k_iconst (v := (-1)) dX11_quickestShortestThrow_42 (rfl : 42 + 1 = 43) (by decide) ?_
    refine k_icmp_ne (tgt := 49) dX11_quickestShortestThrow_43 (rfl : 43 + 3 = 46) (by decide) (fun b43 => ?_) (fun b43 => ?_)
    · refine k_iload_n (i := 2) dX11_quickestShortestThrow_49 (rfl : 49 + 1 = 50) rfl rfl ?_
      refine k_iconst (v := (-1)) dX11_quickestShortestThrow_50 (rfl : 50 + 1 = 51) (by decide) ?_
      refine k_icmp_eq (tgt := 66) dX11_quickestShortestThrow_51 (rfl : 51 + 3 = 54) (by decide) (fun b51 => ?_) (fun b51 => ?_)
      · refine k_iconst (v := 1) dX11_quickestShortestThrow_66 (rfl : 66 + 1 = 67) (by decide) ?_
        refine k_goto (tgt := 71) dX11_quickestShortestThrow_67 (by decide) ?_
        refine k_istore (i := 6) dX11_quickestShortestThrow_71 (rfl : 71 + 2 = 73) (Nat.le_of_ble_eq_true rfl) ?_
        refine k_ls (ls2 := [.ref 0, .int c, .int b, .int s, .int (nI j), .int (pFind (y1.2.2.1 0) c (Int32.toNatClampNeg (y1.2.1 2)) 1), .int 1, t7]) rfl ?_
        refine k_iload_n (i := 2) dX11_quickestShortestThrow_73 (rfl : 73 + 1 = 74) rfl rfl ?_
        refine k_iconst (v := (-1)) dX11_quickestShortestThrow_74 (rfl : 74 + 1 = 75) (by decide) ?_
        refine k_icmp_eq (tgt := 100) dX11_quickestShortestThrow_75 (rfl : 75 + 3 = 78) (by decide) (fun b75 => ?_) (fun b75 => ?_)
        · refine k_iconst (v := 0) dX11_quickestShortestThrow_100 (rfl : 100 + 1 = 101) (by decide) ?_
          refine k_istore (i := 7) dX11_quickestShortestThrow_101 (rfl : 101 + 2 = 103) (Nat.le_of_ble_eq_true rfl) ?_
          refine k_ls (ls2 := [.ref 0, .int c, .int b, .int s, .int (nI j), .int (pFind (y1.2.2.1 0) c (Int32.toNatClampNeg (y1.2.1 2)) 1), .int 1, .int 0]) rfl ?_
          refine k_iload (i := 6) dX11_quickestShortestThrow_103 (rfl : 103 + 2 = 105) rfl ?_
          refine k_if_ne (tgt := 113) dX11_quickestShortestThrow_105 (rfl : 105 + 3 = 108) (by decide) (fun b105 => ?_) (fun b105 => by exact absurd b105 (by decide))
          refine k_iload (i := 4) dX11_quickestShortestThrow_113 (rfl : 113 + 2 = 115) rfl ?_
          refine k_istore_n (i := 2) dX11_quickestShortestThrow_115 (rfl : 115 + 1 = 116) rfl (Nat.le_of_ble_eq_true rfl) ?_
          refine k_ls (ls2 := [.ref 0, .int c, .int (nI j), .int s, .int (nI j), .int (pFind (y1.2.2.1 0) c (Int32.toNatClampNeg (y1.2.1 2)) 1), .int 1, .int 0]) rfl ?_
          refine k_iload (i := 5) dX11_quickestShortestThrow_116 (rfl : 116 + 2 = 118) rfl ?_
          refine k_istore_n (i := 3) dX11_quickestShortestThrow_118 (rfl : 118 + 1 = 119) rfl (Nat.le_of_ble_eq_true rfl) ?_
          refine k_ls (ls2 := [.ref 0, .int c, .int (nI j), .int (pFind (y1.2.2.1 0) c (Int32.toNatClampNeg (y1.2.1 2)) 1), .int (nI j), .int (pFind (y1.2.2.1 0) c (Int32.toNatClampNeg (y1.2.1 2)) 1), .int 1, .int 0]) rfl ?_
          refine k_iinc (i := 4) (v := (nI (j + 1))) dX11_quickestShortestThrow_119 (rfl : 119 + 3 = 122) rfl (Nat.le_of_ble_eq_true rfl) (nI_1 _) ?_
          refine k_ls (ls2 := [.ref 0, .int c, .int (nI j), .int (pFind (y1.2.2.1 0) c (Int32.toNatClampNeg (y1.2.1 2)) 1), .int (nI (j + 1)), .int (pFind (y1.2.2.1 0) c (Int32.toNatClampNeg (y1.2.1 2)) 1), .int 1, .int 0]) rfl ?_
          refine k_goto (tgt := 7) dX11_quickestShortestThrow_122 (by decide) ?_
          subst hg1
          rw [qsL, if_neg (show ¬ ((pFind ((g_X4_fly x (nI j)).2.2.1 0) c (Int32.toNatClampNeg ((g_X4_fly x (nI j)).2.1 2)) 1) = (-1)) from b43), if_pos (show b = (-1) from b51), if_pos (show b = (-1) from b75)] at hx
          exact ih (g_X4_fly x (nI j)) (j + 1) (nI j) (pFind ((g_X4_fly x (nI j)).2.2.1 0) c (Int32.toNatClampNeg ((g_X4_fly x (nI j)).2.1 2)) 1) _ _ _ (by omega) hx
        · refine k_iload (i := 4) dX11_quickestShortestThrow_78 (rfl : 78 + 2 = 80) rfl ?_
          refine k_callSd1 cv_X11_479 ⟨Nat.le_of_ble_eq_true rfl, Nat.le_of_ble_eq_true rfl⟩ (m_X11_armOf) dX11_quickestShortestThrow_80 (rfl : 80 + 3 = 83) rfl ⟨Nat.le_of_ble_eq_true rfl, Nat.le_of_ble_eq_true rfl⟩ ?_
          refine k_iload_n (i := 2) dX11_quickestShortestThrow_83 (rfl : 83 + 1 = 84) rfl rfl ?_
          refine k_callSd1 cv_X11_479 ⟨Nat.le_of_ble_eq_true rfl, Nat.le_of_ble_eq_true rfl⟩ (m_X11_armOf) dX11_quickestShortestThrow_84 (rfl : 84 + 3 = 87) rfl ⟨Nat.le_of_ble_eq_true rfl, Nat.le_of_ble_eq_true rfl⟩ ?_
          refine k_icmp_ne (tgt := 100) dX11_quickestShortestThrow_87 (rfl : 87 + 3 = 90) (by decide) (fun b87 => ?_) (fun b87 => ?_)
          · refine k_iconst (v := 0) dX11_quickestShortestThrow_100 (rfl : 100 + 1 = 101) (by decide) ?_
            refine k_istore (i := 7) dX11_quickestShortestThrow_101 (rfl : 101 + 2 = 103) (Nat.le_of_ble_eq_true rfl) ?_
            refine k_ls (ls2 := [.ref 0, .int c, .int b, .int s, .int (nI j), .int (pFind (y1.2.2.1 0) c (Int32.toNatClampNeg (y1.2.1 2)) 1), .int 1, .int 0]) rfl ?_
            refine k_iload (i := 6) dX11_quickestShortestThrow_103 (rfl : 103 + 2 = 105) rfl ?_
            refine k_if_ne (tgt := 113) dX11_quickestShortestThrow_105 (rfl : 105 + 3 = 108) (by decide) (fun b105 => ?_) (fun b105 => by exact absurd b105 (by decide))
            refine k_iload (i := 4) dX11_quickestShortestThrow_113 (rfl : 113 + 2 = 115) rfl ?_
            refine k_istore_n (i := 2) dX11_quickestShortestThrow_115 (rfl : 115 + 1 = 116) rfl (Nat.le_of_ble_eq_true rfl) ?_
            refine k_ls (ls2 := [.ref 0, .int c, .int (nI j), .int s, .int (nI j), .int (pFind (y1.2.2.1 0) c (Int32.toNatClampNeg (y1.2.1 2)) 1), .int 1, .int 0]) rfl ?_
            refine k_iload (i := 5) dX11_quickestShortestThrow_116 (rfl : 116 + 2 = 118) rfl ?_
            refine k_istore_n (i := 3) dX11_quickestShortestThrow_118 (rfl : 118 + 1 = 119) rfl (Nat.le_of_ble_eq_true rfl) ?_
            refine k_ls (ls2 := [.ref 0, .int c, .int (nI j), .int (pFind (y1.2.2.1 0) c (Int32.toNatClampNeg (y1.2.1 2)) 1), .int (nI j), .int (pFind (y1.2.2.1 0) c (Int32.toNatClampNeg (y1.2.1 2)) 1), .int 1, .int 0]) rfl ?_
            refine k_iinc (i := 4) (v := (nI (j + 1))) dX11_quickestShortestThrow_119 (rfl : 119 + 3 = 122) rfl (Nat.le_of_ble_eq_true rfl) (nI_1 _) ?_
            refine k_ls (ls2 := [.ref 0, .int c, .int (nI j), .int (pFind (y1.2.2.1 0) c (Int32.toNatClampNeg (y1.2.1 2)) 1), .int (nI (j + 1)), .int (pFind (y1.2.2.1 0) c (Int32.toNatClampNeg (y1.2.1 2)) 1), .int 1, .int 0]) rfl ?_
            refine k_goto (tgt := 7) dX11_quickestShortestThrow_122 (by decide) ?_
            subst hg1
            rw [qsL, if_neg (show ¬ ((pFind ((g_X4_fly x (nI j)).2.2.1 0) c (Int32.toNatClampNeg ((g_X4_fly x (nI j)).2.1 2)) 1) = (-1)) from b43), if_pos (show b = (-1) from b51), if_neg (show ¬ (b = (-1)) from b75), if_neg (show ¬ ((f_X11_armOf (nI j)) = (f_X11_armOf b)) from b87)] at hx
            exact ih (g_X4_fly x (nI j)) (j + 1) (nI j) (pFind ((g_X4_fly x (nI j)).2.2.1 0) c (Int32.toNatClampNeg ((g_X4_fly x (nI j)).2.1 2)) 1) _ _ _ (by omega) hx
          · refine k_iload (i := 5) dX11_quickestShortestThrow_90 (rfl : 90 + 2 = 92) rfl ?_
            refine k_iload_n (i := 3) dX11_quickestShortestThrow_92 (rfl : 92 + 1 = 93) rfl rfl ?_
            refine k_icmp_ge (tgt := 100) dX11_quickestShortestThrow_93 (rfl : 93 + 3 = 96) (by decide) (fun b93 => ?_) (fun b93 => ?_)
            · refine k_iconst (v := 0) dX11_quickestShortestThrow_100 (rfl : 100 + 1 = 101) (by decide) ?_
              refine k_istore (i := 7) dX11_quickestShortestThrow_101 (rfl : 101 + 2 = 103) (Nat.le_of_ble_eq_true rfl) ?_
              refine k_ls (ls2 := [.ref 0, .int c, .int b, .int s, .int (nI j), .int (pFind (y1.2.2.1 0) c (Int32.toNatClampNeg (y1.2.1 2)) 1), .int 1, .int 0]) rfl ?_
              refine k_iload (i := 6) dX11_quickestShortestThrow_103 (rfl : 103 + 2 = 105) rfl ?_
              refine k_if_ne (tgt := 113) dX11_quickestShortestThrow_105 (rfl : 105 + 3 = 108) (by decide) (fun b105 => ?_) (fun b105 => by exact absurd b105 (by decide))
              refine k_iload (i := 4) dX11_quickestShortestThrow_113 (rfl : 113 + 2 = 115) rfl ?_
              refine k_istore_n (i := 2) dX11_quickestShortestThrow_115 (rfl : 115 + 1 = 116) rfl (Nat.le_of_ble_eq_true rfl) ?_
              refine k_ls (ls2 := [.ref 0, .int c, .int (nI j), .int s, .int (nI j), .int (pFind (y1.2.2.1 0) c (Int32.toNatClampNeg (y1.2.1 2)) 1), .int 1, .int 0]) rfl ?_
              refine k_iload (i := 5) dX11_quickestShortestThrow_116 (rfl : 116 + 2 = 118) rfl ?_
              refine k_istore_n (i := 3) dX11_quickestShortestThrow_118 (rfl : 118 + 1 = 119) rfl (Nat.le_of_ble_eq_true rfl) ?_
              refine k_ls (ls2 := [.ref 0, .int c, .int (nI j), .int (pFind (y1.2.2.1 0) c (Int32.toNatClampNeg (y1.2.1 2)) 1), .int (nI j), .int (pFind (y1.2.2.1 0) c (Int32.toNatClampNeg (y1.2.1 2)) 1), .int 1, .int 0]) rfl ?_
              refine k_iinc (i := 4) (v := (nI (j + 1))) dX11_quickestShortestThrow_119 (rfl : 119 + 3 = 122) rfl (Nat.le_of_ble_eq_true rfl) (nI_1 _) ?_
              refine k_ls (ls2 := [.ref 0, .int c, .int (nI j), .int (pFind (y1.2.2.1 0) c (Int32.toNatClampNeg (y1.2.1 2)) 1), .int (nI (j + 1)), .int (pFind (y1.2.2.1 0) c (Int32.toNatClampNeg (y1.2.1 2)) 1), .int 1, .int 0]) rfl ?_
              refine k_goto (tgt := 7) dX11_quickestShortestThrow_122 (by decide) ?_
              subst hg1
              rw [qsL, if_neg (show ¬ ((pFind ((g_X4_fly x (nI j)).2.2.1 0) c (Int32.toNatClampNeg ((g_X4_fly x (nI j)).2.1 2)) 1) = (-1)) from b43), if_pos (show b = (-1) from b51), if_neg (show ¬ (b = (-1)) from b75), if_pos (show (f_X11_armOf (nI j)) = (f_X11_armOf b) from b87), if_pos (show s ≤ (pFind ((g_X4_fly x (nI j)).2.2.1 0) c (Int32.toNatClampNeg ((g_X4_fly x (nI j)).2.1 2)) 1) from b93)] at hx
              exact ih (g_X4_fly x (nI j)) (j + 1) (nI j) (pFind ((g_X4_fly x (nI j)).2.2.1 0) c (Int32.toNatClampNeg ((g_X4_fly x (nI j)).2.1 2)) 1) _ _ _ (by omega) hx
            · refine k_iconst (v := 1) dX11_quickestShortestThrow_96 (rfl : 96 + 1 = 97) (by decide) ?_
              refine k_goto (tgt := 101) dX11_quickestShortestThrow_97 (by decide) ?_
              refine k_istore (i := 7) dX11_quickestShortestThrow_101 (rfl : 101 + 2 = 103) (Nat.le_of_ble_eq_true rfl) ?_
              refine k_ls (ls2 := [.ref 0, .int c, .int b, .int s, .int (nI j), .int (pFind (y1.2.2.1 0) c (Int32.toNatClampNeg (y1.2.1 2)) 1), .int 1, .int 1]) rfl ?_
              refine k_iload (i := 6) dX11_quickestShortestThrow_103 (rfl : 103 + 2 = 105) rfl ?_
              refine k_if_ne (tgt := 113) dX11_quickestShortestThrow_105 (rfl : 105 + 3 = 108) (by decide) (fun b105 => ?_) (fun b105 => by exact absurd b105 (by decide))
              refine k_iload (i := 4) dX11_quickestShortestThrow_113 (rfl : 113 + 2 = 115) rfl ?_
              refine k_istore_n (i := 2) dX11_quickestShortestThrow_115 (rfl : 115 + 1 = 116) rfl (Nat.le_of_ble_eq_true rfl) ?_
              refine k_ls (ls2 := [.ref 0, .int c, .int (nI j), .int s, .int (nI j), .int (pFind (y1.2.2.1 0) c (Int32.toNatClampNeg (y1.2.1 2)) 1), .int 1, .int 1]) rfl ?_
              refine k_iload (i := 5) dX11_quickestShortestThrow_116 (rfl : 116 + 2 = 118) rfl ?_
              refine k_istore_n (i := 3) dX11_quickestShortestThrow_118 (rfl : 118 + 1 = 119) rfl (Nat.le_of_ble_eq_true rfl) ?_
              refine k_ls (ls2 := [.ref 0, .int c, .int (nI j), .int (pFind (y1.2.2.1 0) c (Int32.toNatClampNeg (y1.2.1 2)) 1), .int (nI j), .int (pFind (y1.2.2.1 0) c (Int32.toNatClampNeg (y1.2.1 2)) 1), .int 1, .int 1]) rfl ?_
              refine k_iinc (i := 4) (v := (nI (j + 1))) dX11_quickestShortestThrow_119 (rfl : 119 + 3 = 122) rfl (Nat.le_of_ble_eq_true rfl) (nI_1 _) ?_
              refine k_ls (ls2 := [.ref 0, .int c, .int (nI j), .int (pFind (y1.2.2.1 0) c (Int32.toNatClampNeg (y1.2.1 2)) 1), .int (nI (j + 1)), .int (pFind (y1.2.2.1 0) c (Int32.toNatClampNeg (y1.2.1 2)) 1), .int 1, .int 1]) rfl ?_
              refine k_goto (tgt := 7) dX11_quickestShortestThrow_122 (by decide) ?_
              subst hg1
              rw [qsL, if_neg (show ¬ ((pFind ((g_X4_fly x (nI j)).2.2.1 0) c (Int32.toNatClampNeg ((g_X4_fly x (nI j)).2.1 2)) 1) = (-1)) from b43), if_pos (show b = (-1) from b51), if_neg (show ¬ (b = (-1)) from b75), if_pos (show (f_X11_armOf (nI j)) = (f_X11_armOf b) from b87), if_neg (show ¬ (s ≤ (pFind ((g_X4_fly x (nI j)).2.2.1 0) c (Int32.toNatClampNeg ((g_X4_fly x (nI j)).2.1 2)) 1)) from b93)] at hx
              exact ih (g_X4_fly x (nI j)) (j + 1) (nI j) (pFind ((g_X4_fly x (nI j)).2.2.1 0) c (Int32.toNatClampNeg ((g_X4_fly x (nI j)).2.1 2)) 1) _ _ _ (by omega) hx
      · refine k_iload (i := 4) dX11_quickestShortestThrow_54 (rfl : 54 + 2 = 56) rfl ?_
        refine k_callSd1 cv_X11_479 ⟨Nat.le_of_ble_eq_true rfl, Nat.le_of_ble_eq_true rfl⟩ (m_X11_armOf) dX11_quickestShortestThrow_56 (rfl : 56 + 3 = 59) rfl ⟨Nat.le_of_ble_eq_true rfl, Nat.le_of_ble_eq_true rfl⟩ ?_
        refine k_iload_n (i := 2) dX11_quickestShortestThrow_59 (rfl : 59 + 1 = 60) rfl rfl ?_
        refine k_callSd1 cv_X11_479 ⟨Nat.le_of_ble_eq_true rfl, Nat.le_of_ble_eq_true rfl⟩ (m_X11_armOf) dX11_quickestShortestThrow_60 (rfl : 60 + 3 = 63) rfl ⟨Nat.le_of_ble_eq_true rfl, Nat.le_of_ble_eq_true rfl⟩ ?_
        refine k_icmp_ge (tgt := 70) dX11_quickestShortestThrow_63 (rfl : 63 + 3 = 66) (by decide) (fun b63 => ?_) (fun b63 => ?_)
        · refine k_iconst (v := 0) dX11_quickestShortestThrow_70 (rfl : 70 + 1 = 71) (by decide) ?_
          refine k_istore (i := 6) dX11_quickestShortestThrow_71 (rfl : 71 + 2 = 73) (Nat.le_of_ble_eq_true rfl) ?_
          refine k_ls (ls2 := [.ref 0, .int c, .int b, .int s, .int (nI j), .int (pFind (y1.2.2.1 0) c (Int32.toNatClampNeg (y1.2.1 2)) 1), .int 0, t7]) rfl ?_
          refine k_iload_n (i := 2) dX11_quickestShortestThrow_73 (rfl : 73 + 1 = 74) rfl rfl ?_
          refine k_iconst (v := (-1)) dX11_quickestShortestThrow_74 (rfl : 74 + 1 = 75) (by decide) ?_
          refine k_icmp_eq (tgt := 100) dX11_quickestShortestThrow_75 (rfl : 75 + 3 = 78) (by decide) (fun b75 => ?_) (fun b75 => ?_)
          · refine k_iconst (v := 0) dX11_quickestShortestThrow_100 (rfl : 100 + 1 = 101) (by decide) ?_
            refine k_istore (i := 7) dX11_quickestShortestThrow_101 (rfl : 101 + 2 = 103) (Nat.le_of_ble_eq_true rfl) ?_
            refine k_ls (ls2 := [.ref 0, .int c, .int b, .int s, .int (nI j), .int (pFind (y1.2.2.1 0) c (Int32.toNatClampNeg (y1.2.1 2)) 1), .int 0, .int 0]) rfl ?_
            refine k_iload (i := 6) dX11_quickestShortestThrow_103 (rfl : 103 + 2 = 105) rfl ?_
            refine k_if_ne (tgt := 113) dX11_quickestShortestThrow_105 (rfl : 105 + 3 = 108) (by decide) (fun b105 => by exact absurd (by decide) b105) (fun b105 => ?_)
            refine k_iload (i := 7) dX11_quickestShortestThrow_108 (rfl : 108 + 2 = 110) rfl ?_
            refine k_if_eq (tgt := 119) dX11_quickestShortestThrow_110 (rfl : 110 + 3 = 113) (by decide) (fun b110 => ?_) (fun b110 => by exact absurd (by decide) b110)
            refine k_iinc (i := 4) (v := (nI (j + 1))) dX11_quickestShortestThrow_119 (rfl : 119 + 3 = 122) rfl (Nat.le_of_ble_eq_true rfl) (nI_1 _) ?_
            refine k_ls (ls2 := [.ref 0, .int c, .int b, .int s, .int (nI (j + 1)), .int (pFind (y1.2.2.1 0) c (Int32.toNatClampNeg (y1.2.1 2)) 1), .int 0, .int 0]) rfl ?_
            refine k_goto (tgt := 7) dX11_quickestShortestThrow_122 (by decide) ?_
            subst hg1
            rw [qsL, if_neg (show ¬ ((pFind ((g_X4_fly x (nI j)).2.2.1 0) c (Int32.toNatClampNeg ((g_X4_fly x (nI j)).2.1 2)) 1) = (-1)) from b43), if_neg (show ¬ (b = (-1)) from b51), if_pos (show (f_X11_armOf b) ≤ (f_X11_armOf (nI j)) from b63), if_pos (show b = (-1) from b75)] at hx
            exact ih (g_X4_fly x (nI j)) (j + 1) b s _ _ _ (by omega) hx
          · refine k_iload (i := 4) dX11_quickestShortestThrow_78 (rfl : 78 + 2 = 80) rfl ?_
            refine k_callSd1 cv_X11_479 ⟨Nat.le_of_ble_eq_true rfl, Nat.le_of_ble_eq_true rfl⟩ (m_X11_armOf) dX11_quickestShortestThrow_80 (rfl : 80 + 3 = 83) rfl ⟨Nat.le_of_ble_eq_true rfl, Nat.le_of_ble_eq_true rfl⟩ ?_
            refine k_iload_n (i := 2) dX11_quickestShortestThrow_83 (rfl : 83 + 1 = 84) rfl rfl ?_
            refine k_callSd1 cv_X11_479 ⟨Nat.le_of_ble_eq_true rfl, Nat.le_of_ble_eq_true rfl⟩ (m_X11_armOf) dX11_quickestShortestThrow_84 (rfl : 84 + 3 = 87) rfl ⟨Nat.le_of_ble_eq_true rfl, Nat.le_of_ble_eq_true rfl⟩ ?_
            refine k_icmp_ne (tgt := 100) dX11_quickestShortestThrow_87 (rfl : 87 + 3 = 90) (by decide) (fun b87 => ?_) (fun b87 => ?_)
            · refine k_iconst (v := 0) dX11_quickestShortestThrow_100 (rfl : 100 + 1 = 101) (by decide) ?_
              refine k_istore (i := 7) dX11_quickestShortestThrow_101 (rfl : 101 + 2 = 103) (Nat.le_of_ble_eq_true rfl) ?_
              refine k_ls (ls2 := [.ref 0, .int c, .int b, .int s, .int (nI j), .int (pFind (y1.2.2.1 0) c (Int32.toNatClampNeg (y1.2.1 2)) 1), .int 0, .int 0]) rfl ?_
              refine k_iload (i := 6) dX11_quickestShortestThrow_103 (rfl : 103 + 2 = 105) rfl ?_
              refine k_if_ne (tgt := 113) dX11_quickestShortestThrow_105 (rfl : 105 + 3 = 108) (by decide) (fun b105 => by exact absurd (by decide) b105) (fun b105 => ?_)
              refine k_iload (i := 7) dX11_quickestShortestThrow_108 (rfl : 108 + 2 = 110) rfl ?_
              refine k_if_eq (tgt := 119) dX11_quickestShortestThrow_110 (rfl : 110 + 3 = 113) (by decide) (fun b110 => ?_) (fun b110 => by exact absurd (by decide) b110)
              refine k_iinc (i := 4) (v := (nI (j + 1))) dX11_quickestShortestThrow_119 (rfl : 119 + 3 = 122) rfl (Nat.le_of_ble_eq_true rfl) (nI_1 _) ?_
              refine k_ls (ls2 := [.ref 0, .int c, .int b, .int s, .int (nI (j + 1)), .int (pFind (y1.2.2.1 0) c (Int32.toNatClampNeg (y1.2.1 2)) 1), .int 0, .int 0]) rfl ?_
              refine k_goto (tgt := 7) dX11_quickestShortestThrow_122 (by decide) ?_
              subst hg1
              rw [qsL, if_neg (show ¬ ((pFind ((g_X4_fly x (nI j)).2.2.1 0) c (Int32.toNatClampNeg ((g_X4_fly x (nI j)).2.1 2)) 1) = (-1)) from b43), if_neg (show ¬ (b = (-1)) from b51), if_pos (show (f_X11_armOf b) ≤ (f_X11_armOf (nI j)) from b63), if_neg (show ¬ (b = (-1)) from b75), if_neg (show ¬ ((f_X11_armOf (nI j)) = (f_X11_armOf b)) from b87)] at hx
              exact ih (g_X4_fly x (nI j)) (j + 1) b s _ _ _ (by omega) hx
            · refine k_iload (i := 5) dX11_quickestShortestThrow_90 (rfl : 90 + 2 = 92) rfl ?_
              refine k_iload_n (i := 3) dX11_quickestShortestThrow_92 (rfl : 92 + 1 = 93) rfl rfl ?_
              refine k_icmp_ge (tgt := 100) dX11_quickestShortestThrow_93 (rfl : 93 + 3 = 96) (by decide) (fun b93 => ?_) (fun b93 => ?_)
              · refine k_iconst (v := 0) dX11_quickestShortestThrow_100 (rfl : 100 + 1 = 101) (by decide) ?_
                refine k_istore (i := 7) dX11_quickestShortestThrow_101 (rfl : 101 + 2 = 103) (Nat.le_of_ble_eq_true rfl) ?_
                refine k_ls (ls2 := [.ref 0, .int c, .int b, .int s, .int (nI j), .int (pFind (y1.2.2.1 0) c (Int32.toNatClampNeg (y1.2.1 2)) 1), .int 0, .int 0]) rfl ?_
                refine k_iload (i := 6) dX11_quickestShortestThrow_103 (rfl : 103 + 2 = 105) rfl ?_
                refine k_if_ne (tgt := 113) dX11_quickestShortestThrow_105 (rfl : 105 + 3 = 108) (by decide) (fun b105 => by exact absurd (by decide) b105) (fun b105 => ?_)
                refine k_iload (i := 7) dX11_quickestShortestThrow_108 (rfl : 108 + 2 = 110) rfl ?_
                refine k_if_eq (tgt := 119) dX11_quickestShortestThrow_110 (rfl : 110 + 3 = 113) (by decide) (fun b110 => ?_) (fun b110 => by exact absurd (by decide) b110)
                refine k_iinc (i := 4) (v := (nI (j + 1))) dX11_quickestShortestThrow_119 (rfl : 119 + 3 = 122) rfl (Nat.le_of_ble_eq_true rfl) (nI_1 _) ?_
                refine k_ls (ls2 := [.ref 0, .int c, .int b, .int s, .int (nI (j + 1)), .int (pFind (y1.2.2.1 0) c (Int32.toNatClampNeg (y1.2.1 2)) 1), .int 0, .int 0]) rfl ?_
                refine k_goto (tgt := 7) dX11_quickestShortestThrow_122 (by decide) ?_
                subst hg1
                rw [qsL, if_neg (show ¬ ((pFind ((g_X4_fly x (nI j)).2.2.1 0) c (Int32.toNatClampNeg ((g_X4_fly x (nI j)).2.1 2)) 1) = (-1)) from b43), if_neg (show ¬ (b = (-1)) from b51), if_pos (show (f_X11_armOf b) ≤ (f_X11_armOf (nI j)) from b63), if_neg (show ¬ (b = (-1)) from b75), if_pos (show (f_X11_armOf (nI j)) = (f_X11_armOf b) from b87), if_pos (show s ≤ (pFind ((g_X4_fly x (nI j)).2.2.1 0) c (Int32.toNatClampNeg ((g_X4_fly x (nI j)).2.1 2)) 1) from b93)] at hx
                exact ih (g_X4_fly x (nI j)) (j + 1) b s _ _ _ (by omega) hx
              · refine k_iconst (v := 1) dX11_quickestShortestThrow_96 (rfl : 96 + 1 = 97) (by decide) ?_
                refine k_goto (tgt := 101) dX11_quickestShortestThrow_97 (by decide) ?_
                refine k_istore (i := 7) dX11_quickestShortestThrow_101 (rfl : 101 + 2 = 103) (Nat.le_of_ble_eq_true rfl) ?_
                refine k_ls (ls2 := [.ref 0, .int c, .int b, .int s, .int (nI j), .int (pFind (y1.2.2.1 0) c (Int32.toNatClampNeg (y1.2.1 2)) 1), .int 0, .int 1]) rfl ?_
                refine k_iload (i := 6) dX11_quickestShortestThrow_103 (rfl : 103 + 2 = 105) rfl ?_
                refine k_if_ne (tgt := 113) dX11_quickestShortestThrow_105 (rfl : 105 + 3 = 108) (by decide) (fun b105 => by exact absurd (by decide) b105) (fun b105 => ?_)
                refine k_iload (i := 7) dX11_quickestShortestThrow_108 (rfl : 108 + 2 = 110) rfl ?_
                refine k_if_eq (tgt := 119) dX11_quickestShortestThrow_110 (rfl : 110 + 3 = 113) (by decide) (fun b110 => by exact absurd b110 (by decide)) (fun b110 => ?_)
                refine k_iload (i := 4) dX11_quickestShortestThrow_113 (rfl : 113 + 2 = 115) rfl ?_
                refine k_istore_n (i := 2) dX11_quickestShortestThrow_115 (rfl : 115 + 1 = 116) rfl (Nat.le_of_ble_eq_true rfl) ?_
                refine k_ls (ls2 := [.ref 0, .int c, .int (nI j), .int s, .int (nI j), .int (pFind (y1.2.2.1 0) c (Int32.toNatClampNeg (y1.2.1 2)) 1), .int 0, .int 1]) rfl ?_
                refine k_iload (i := 5) dX11_quickestShortestThrow_116 (rfl : 116 + 2 = 118) rfl ?_
                refine k_istore_n (i := 3) dX11_quickestShortestThrow_118 (rfl : 118 + 1 = 119) rfl (Nat.le_of_ble_eq_true rfl) ?_
                refine k_ls (ls2 := [.ref 0, .int c, .int (nI j), .int (pFind (y1.2.2.1 0) c (Int32.toNatClampNeg (y1.2.1 2)) 1), .int (nI j), .int (pFind (y1.2.2.1 0) c (Int32.toNatClampNeg (y1.2.1 2)) 1), .int 0, .int 1]) rfl ?_
                refine k_iinc (i := 4) (v := (nI (j + 1))) dX11_quickestShortestThrow_119 (rfl : 119 + 3 = 122) rfl (Nat.le_of_ble_eq_true rfl) (nI_1 _) ?_
                refine k_ls (ls2 := [.ref 0, .int c, .int (nI j), .int (pFind (y1.2.2.1 0) c (Int32.toNatClampNeg (y1.2.1 2)) 1), .int (nI (j + 1)), .int (pFind (y1.2.2.1 0) c (Int32.toNatClampNeg (y1.2.1 2)) 1), .int 0, .int 1]) rfl ?_
                refine k_goto (tgt := 7) dX11_quickestShortestThrow_122 (by decide) ?_
                subst hg1
                rw [qsL, if_neg (show ¬ ((pFind ((g_X4_fly x (nI j)).2.2.1 0) c (Int32.toNatClampNeg ((g_X4_fly x (nI j)).2.1 2)) 1) = (-1)) from b43), if_neg (show ¬ (b = (-1)) from b51), if_pos (show (f_X11_armOf b) ≤ (f_X11_armOf (nI j)) from b63), if_neg (show ¬ (b = (-1)) from b75), if_pos (show (f_X11_armOf (nI j)) = (f_X11_armOf b) from b87), if_neg (show ¬ (s ≤ (pFind ((g_X4_fly x (nI j)).2.2.1 0) c (Int32.toNatClampNeg ((g_X4_fly x (nI j)).2.1 2)) 1)) from b93)] at hx
                exact ih (g_X4_fly x (nI j)) (j + 1) (nI j) (pFind ((g_X4_fly x (nI j)).2.2.1 0) c (Int32.toNatClampNeg ((g_X4_fly x (nI j)).2.1 2)) 1) _ _ _ (by omega) hx
        · refine k_iconst (v := 1) dX11_quickestShortestThrow_66 (rfl : 66 + 1 = 67) (by decide) ?_
          refine k_goto (tgt := 71) dX11_quickestShortestThrow_67 (by decide) ?_
          refine k_istore (i := 6) dX11_quickestShortestThrow_71 (rfl : 71 + 2 = 73) (Nat.le_of_ble_eq_true rfl) ?_
          refine k_ls (ls2 := [.ref 0, .int c, .int b, .int s, .int (nI j), .int (pFind (y1.2.2.1 0) c (Int32.toNatClampNeg (y1.2.1 2)) 1), .int 1, t7]) rfl ?_
          refine k_iload_n (i := 2) dX11_quickestShortestThrow_73 (rfl : 73 + 1 = 74) rfl rfl ?_
          refine k_iconst (v := (-1)) dX11_quickestShortestThrow_74 (rfl : 74 + 1 = 75) (by decide) ?_
          refine k_icmp_eq (tgt := 100) dX11_quickestShortestThrow_75 (rfl : 75 + 3 = 78) (by decide) (fun b75 => ?_) (fun b75 => ?_)
          · refine k_iconst (v := 0) dX11_quickestShortestThrow_100 (rfl : 100 + 1 = 101) (by decide) ?_
            refine k_istore (i := 7) dX11_quickestShortestThrow_101 (rfl : 101 + 2 = 103) (Nat.le_of_ble_eq_true rfl) ?_
            refine k_ls (ls2 := [.ref 0, .int c, .int b, .int s, .int (nI j), .int (pFind (y1.2.2.1 0) c (Int32.toNatClampNeg (y1.2.1 2)) 1), .int 1, .int 0]) rfl ?_
            refine k_iload (i := 6) dX11_quickestShortestThrow_103 (rfl : 103 + 2 = 105) rfl ?_
            refine k_if_ne (tgt := 113) dX11_quickestShortestThrow_105 (rfl : 105 + 3 = 108) (by decide) (fun b105 => ?_) (fun b105 => by exact absurd b105 (by decide))
            refine k_iload (i := 4) dX11_quickestShortestThrow_113 (rfl : 113 + 2 = 115) rfl ?_
            refine k_istore_n (i := 2) dX11_quickestShortestThrow_115 (rfl : 115 + 1 = 116) rfl (Nat.le_of_ble_eq_true rfl) ?_
            refine k_ls (ls2 := [.ref 0, .int c, .int (nI j), .int s, .int (nI j), .int (pFind (y1.2.2.1 0) c (Int32.toNatClampNeg (y1.2.1 2)) 1), .int 1, .int 0]) rfl ?_
            refine k_iload (i := 5) dX11_quickestShortestThrow_116 (rfl : 116 + 2 = 118) rfl ?_
            refine k_istore_n (i := 3) dX11_quickestShortestThrow_118 (rfl : 118 + 1 = 119) rfl (Nat.le_of_ble_eq_true rfl) ?_
            refine k_ls (ls2 := [.ref 0, .int c, .int (nI j), .int (pFind (y1.2.2.1 0) c (Int32.toNatClampNeg (y1.2.1 2)) 1), .int (nI j), .int (pFind (y1.2.2.1 0) c (Int32.toNatClampNeg (y1.2.1 2)) 1), .int 1, .int 0]) rfl ?_
            refine k_iinc (i := 4) (v := (nI (j + 1))) dX11_quickestShortestThrow_119 (rfl : 119 + 3 = 122) rfl (Nat.le_of_ble_eq_true rfl) (nI_1 _) ?_
            refine k_ls (ls2 := [.ref 0, .int c, .int (nI j), .int (pFind (y1.2.2.1 0) c (Int32.toNatClampNeg (y1.2.1 2)) 1), .int (nI (j + 1)), .int (pFind (y1.2.2.1 0) c (Int32.toNatClampNeg (y1.2.1 2)) 1), .int 1, .int 0]) rfl ?_
            refine k_goto (tgt := 7) dX11_quickestShortestThrow_122 (by decide) ?_
            subst hg1
            rw [qsL, if_neg (show ¬ ((pFind ((g_X4_fly x (nI j)).2.2.1 0) c (Int32.toNatClampNeg ((g_X4_fly x (nI j)).2.1 2)) 1) = (-1)) from b43), if_neg (show ¬ (b = (-1)) from b51), if_neg (show ¬ ((f_X11_armOf b) ≤ (f_X11_armOf (nI j))) from b63), if_pos (show b = (-1) from b75)] at hx
            exact ih (g_X4_fly x (nI j)) (j + 1) (nI j) (pFind ((g_X4_fly x (nI j)).2.2.1 0) c (Int32.toNatClampNeg ((g_X4_fly x (nI j)).2.1 2)) 1) _ _ _ (by omega) hx
          · refine k_iload (i := 4) dX11_quickestShortestThrow_78 (rfl : 78 + 2 = 80) rfl ?_
            refine k_callSd1 cv_X11_479 ⟨Nat.le_of_ble_eq_true rfl, Nat.le_of_ble_eq_true rfl⟩ (m_X11_armOf) dX11_quickestShortestThrow_80 (rfl : 80 + 3 = 83) rfl ⟨Nat.le_of_ble_eq_true rfl, Nat.le_of_ble_eq_true rfl⟩ ?_
            refine k_iload_n (i := 2) dX11_quickestShortestThrow_83 (rfl : 83 + 1 = 84) rfl rfl ?_
            refine k_callSd1 cv_X11_479 ⟨Nat.le_of_ble_eq_true rfl, Nat.le_of_ble_eq_true rfl⟩ (m_X11_armOf) dX11_quickestShortestThrow_84 (rfl : 84 + 3 = 87) rfl ⟨Nat.le_of_ble_eq_true rfl, Nat.le_of_ble_eq_true rfl⟩ ?_
            refine k_icmp_ne (tgt := 100) dX11_quickestShortestThrow_87 (rfl : 87 + 3 = 90) (by decide) (fun b87 => ?_) (fun b87 => ?_)
            · refine k_iconst (v := 0) dX11_quickestShortestThrow_100 (rfl : 100 + 1 = 101) (by decide) ?_
              refine k_istore (i := 7) dX11_quickestShortestThrow_101 (rfl : 101 + 2 = 103) (Nat.le_of_ble_eq_true rfl) ?_
              refine k_ls (ls2 := [.ref 0, .int c, .int b, .int s, .int (nI j), .int (pFind (y1.2.2.1 0) c (Int32.toNatClampNeg (y1.2.1 2)) 1), .int 1, .int 0]) rfl ?_
              refine k_iload (i := 6) dX11_quickestShortestThrow_103 (rfl : 103 + 2 = 105) rfl ?_
              refine k_if_ne (tgt := 113) dX11_quickestShortestThrow_105 (rfl : 105 + 3 = 108) (by decide) (fun b105 => ?_) (fun b105 => by exact absurd b105 (by decide))
              refine k_iload (i := 4) dX11_quickestShortestThrow_113 (rfl : 113 + 2 = 115) rfl ?_
              refine k_istore_n (i := 2) dX11_quickestShortestThrow_115 (rfl : 115 + 1 = 116) rfl (Nat.le_of_ble_eq_true rfl) ?_
              refine k_ls (ls2 := [.ref 0, .int c, .int (nI j), .int s, .int (nI j), .int (pFind (y1.2.2.1 0) c (Int32.toNatClampNeg (y1.2.1 2)) 1), .int 1, .int 0]) rfl ?_
              refine k_iload (i := 5) dX11_quickestShortestThrow_116 (rfl : 116 + 2 = 118) rfl ?_
              refine k_istore_n (i := 3) dX11_quickestShortestThrow_118 (rfl : 118 + 1 = 119) rfl (Nat.le_of_ble_eq_true rfl) ?_
              refine k_ls (ls2 := [.ref 0, .int c, .int (nI j), .int (pFind (y1.2.2.1 0) c (Int32.toNatClampNeg (y1.2.1 2)) 1), .int (nI j), .int (pFind (y1.2.2.1 0) c (Int32.toNatClampNeg (y1.2.1 2)) 1), .int 1, .int 0]) rfl ?_
              refine k_iinc (i := 4) (v := (nI (j + 1))) dX11_quickestShortestThrow_119 (rfl : 119 + 3 = 122) rfl (Nat.le_of_ble_eq_true rfl) (nI_1 _) ?_
              refine k_ls (ls2 := [.ref 0, .int c, .int (nI j), .int (pFind (y1.2.2.1 0) c (Int32.toNatClampNeg (y1.2.1 2)) 1), .int (nI (j + 1)), .int (pFind (y1.2.2.1 0) c (Int32.toNatClampNeg (y1.2.1 2)) 1), .int 1, .int 0]) rfl ?_
              refine k_goto (tgt := 7) dX11_quickestShortestThrow_122 (by decide) ?_
              subst hg1
              rw [qsL, if_neg (show ¬ ((pFind ((g_X4_fly x (nI j)).2.2.1 0) c (Int32.toNatClampNeg ((g_X4_fly x (nI j)).2.1 2)) 1) = (-1)) from b43), if_neg (show ¬ (b = (-1)) from b51), if_neg (show ¬ ((f_X11_armOf b) ≤ (f_X11_armOf (nI j))) from b63), if_neg (show ¬ (b = (-1)) from b75), if_neg (show ¬ ((f_X11_armOf (nI j)) = (f_X11_armOf b)) from b87)] at hx
              exact ih (g_X4_fly x (nI j)) (j + 1) (nI j) (pFind ((g_X4_fly x (nI j)).2.2.1 0) c (Int32.toNatClampNeg ((g_X4_fly x (nI j)).2.1 2)) 1) _ _ _ (by omega) hx
            · refine k_iload (i := 5) dX11_quickestShortestThrow_90 (rfl : 90 + 2 = 92) rfl ?_
              refine k_iload_n (i := 3) dX11_quickestShortestThrow_92 (rfl : 92 + 1 = 93) rfl rfl ?_
              refine k_icmp_ge (tgt := 100) dX11_quickestShortestThrow_93 (rfl : 93 + 3 = 96) (by decide) (fun b93 => ?_) (fun b93 => ?_)
              · refine k_iconst (v := 0) dX11_quickestShortestThrow_100 (rfl : 100 + 1 = 101) (by decide) ?_
                refine k_istore (i := 7) dX11_quickestShortestThrow_101 (rfl : 101 + 2 = 103) (Nat.le_of_ble_eq_true rfl) ?_
                refine k_ls (ls2 := [.ref 0, .int c, .int b, .int s, .int (nI j), .int (pFind (y1.2.2.1 0) c (Int32.toNatClampNeg (y1.2.1 2)) 1), .int 1, .int 0]) rfl ?_
                refine k_iload (i := 6) dX11_quickestShortestThrow_103 (rfl : 103 + 2 = 105) rfl ?_
                refine k_if_ne (tgt := 113) dX11_quickestShortestThrow_105 (rfl : 105 + 3 = 108) (by decide) (fun b105 => ?_) (fun b105 => by exact absurd b105 (by decide))
                refine k_iload (i := 4) dX11_quickestShortestThrow_113 (rfl : 113 + 2 = 115) rfl ?_
                refine k_istore_n (i := 2) dX11_quickestShortestThrow_115 (rfl : 115 + 1 = 116) rfl (Nat.le_of_ble_eq_true rfl) ?_
                refine k_ls (ls2 := [.ref 0, .int c, .int (nI j), .int s, .int (nI j), .int (pFind (y1.2.2.1 0) c (Int32.toNatClampNeg (y1.2.1 2)) 1), .int 1, .int 0]) rfl ?_
                refine k_iload (i := 5) dX11_quickestShortestThrow_116 (rfl : 116 + 2 = 118) rfl ?_
                refine k_istore_n (i := 3) dX11_quickestShortestThrow_118 (rfl : 118 + 1 = 119) rfl (Nat.le_of_ble_eq_true rfl) ?_
                refine k_ls (ls2 := [.ref 0, .int c, .int (nI j), .int (pFind (y1.2.2.1 0) c (Int32.toNatClampNeg (y1.2.1 2)) 1), .int (nI j), .int (pFind (y1.2.2.1 0) c (Int32.toNatClampNeg (y1.2.1 2)) 1), .int 1, .int 0]) rfl ?_
                refine k_iinc (i := 4) (v := (nI (j + 1))) dX11_quickestShortestThrow_119 (rfl : 119 + 3 = 122) rfl (Nat.le_of_ble_eq_true rfl) (nI_1 _) ?_
                refine k_ls (ls2 := [.ref 0, .int c, .int (nI j), .int (pFind (y1.2.2.1 0) c (Int32.toNatClampNeg (y1.2.1 2)) 1), .int (nI (j + 1)), .int (pFind (y1.2.2.1 0) c (Int32.toNatClampNeg (y1.2.1 2)) 1), .int 1, .int 0]) rfl ?_
                refine k_goto (tgt := 7) dX11_quickestShortestThrow_122 (by decide) ?_
                subst hg1
                rw [qsL, if_neg (show ¬ ((pFind ((g_X4_fly x (nI j)).2.2.1 0) c (Int32.toNatClampNeg ((g_X4_fly x (nI j)).2.1 2)) 1) = (-1)) from b43), if_neg (show ¬ (b = (-1)) from b51), if_neg (show ¬ ((f_X11_armOf b) ≤ (f_X11_armOf (nI j))) from b63), if_neg (show ¬ (b = (-1)) from b75), if_pos (show (f_X11_armOf (nI j)) = (f_X11_armOf b) from b87), if_pos (show s ≤ (pFind ((g_X4_fly x (nI j)).2.2.1 0) c (Int32.toNatClampNeg ((g_X4_fly x (nI j)).2.1 2)) 1) from b93)] at hx
                exact ih (g_X4_fly x (nI j)) (j + 1) (nI j) (pFind ((g_X4_fly x (nI j)).2.2.1 0) c (Int32.toNatClampNeg ((g_X4_fly x (nI j)).2.1 2)) 1) _ _ _ (by omega) hx
              · refine k_iconst (v := 1) dX11_quickestShortestThrow_96 (rfl : 96 + 1 = 97) (by decide) ?_
                refine k_goto (tgt := 101) dX11_quickestShortestThrow_97 (by decide) ?_
                refine k_istore (i := 7) dX11_quickestShortestThrow_101 (rfl : 101 + 2 = 103) (Nat.le_of_ble_eq_true rfl) ?_
                refine k_ls (ls2 := [.ref 0, .int c, .int b, .int s, .int (nI j), .int (pFind (y1.2.2.1 0) c (Int32.toNatClampNeg (y1.2.1 2)) 1), .int 1, .int 1]) rfl ?_
                refine k_iload (i := 6) dX11_quickestShortestThrow_103 (rfl : 103 + 2 = 105) rfl ?_
                refine k_if_ne (tgt := 113) dX11_quickestShortestThrow_105 (rfl : 105 + 3 = 108) (by decide) (fun b105 => ?_) (fun b105 => by exact absurd b105 (by decide))
                refine k_iload (i := 4) dX11_quickestShortestThrow_113 (rfl : 113 + 2 = 115) rfl ?_
                refine k_istore_n (i := 2) dX11_quickestShortestThrow_115 (rfl : 115 + 1 = 116) rfl (Nat.le_of_ble_eq_true rfl) ?_
                refine k_ls (ls2 := [.ref 0, .int c, .int (nI j), .int s, .int (nI j), .int (pFind (y1.2.2.1 0) c (Int32.toNatClampNeg (y1.2.1 2)) 1), .int 1, .int 1]) rfl ?_
                refine k_iload (i := 5) dX11_quickestShortestThrow_116 (rfl : 116 + 2 = 118) rfl ?_
                refine k_istore_n (i := 3) dX11_quickestShortestThrow_118 (rfl : 118 + 1 = 119) rfl (Nat.le_of_ble_eq_true rfl) ?_
                refine k_ls (ls2 := [.ref 0, .int c, .int (nI j), .int (pFind (y1.2.2.1 0) c (Int32.toNatClampNeg (y1.2.1 2)) 1), .int (nI j), .int (pFind (y1.2.2.1 0) c (Int32.toNatClampNeg (y1.2.1 2)) 1), .int 1, .int 1]) rfl ?_
                refine k_iinc (i := 4) (v := (nI (j + 1))) dX11_quickestShortestThrow_119 (rfl : 119 + 3 = 122) rfl (Nat.le_of_ble_eq_true rfl) (nI_1 _) ?_
                refine k_ls (ls2 := [.ref 0, .int c, .int (nI j), .int (pFind (y1.2.2.1 0) c (Int32.toNatClampNeg (y1.2.1 2)) 1), .int (nI (j + 1)), .int (pFind (y1.2.2.1 0) c (Int32.toNatClampNeg (y1.2.1 2)) 1), .int 1, .int 1]) rfl ?_
                refine k_goto (tgt := 7) dX11_quickestShortestThrow_122 (by decide) ?_
                subst hg1
                rw [qsL, if_neg (show ¬ ((pFind ((g_X4_fly x (nI j)).2.2.1 0) c (Int32.toNatClampNeg ((g_X4_fly x (nI j)).2.1 2)) 1) = (-1)) from b43), if_neg (show ¬ (b = (-1)) from b51), if_neg (show ¬ ((f_X11_armOf b) ≤ (f_X11_armOf (nI j))) from b63), if_neg (show ¬ (b = (-1)) from b75), if_pos (show (f_X11_armOf (nI j)) = (f_X11_armOf b) from b87), if_neg (show ¬ (s ≤ (pFind ((g_X4_fly x (nI j)).2.2.1 0) c (Int32.toNatClampNeg ((g_X4_fly x (nI j)).2.1 2)) 1)) from b93)] at hx
                exact ih (g_X4_fly x (nI j)) (j + 1) (nI j) (pFind ((g_X4_fly x (nI j)).2.2.1 0) c (Int32.toNatClampNeg ((g_X4_fly x (nI j)).2.1 2)) 1) _ _ _ (by omega) hx
    · refine k_goto (tgt := 119) dX11_quickestShortestThrow_46 (by decide) ?_
      refine k_iinc (i := 4) (v := (nI (j + 1))) dX11_quickestShortestThrow_119 (rfl : 119 + 3 = 122) rfl (Nat.le_of_ble_eq_true rfl) (nI_1 _) ?_
      refine k_ls (ls2 := [.ref 0, .int c, .int b, .int s, .int (nI (j + 1)), .int (pFind (y1.2.2.1 0) c (Int32.toNatClampNeg (y1.2.1 2)) 1), t6, t7]) rfl ?_
      refine k_goto (tgt := 7) dX11_quickestShortestThrow_122 (by decide) ?_
      subst hg1
      rw [qsL, if_pos (show (pFind ((g_X4_fly x (nI j)).2.2.1 0) c (Int32.toNatClampNeg ((g_X4_fly x (nI j)).2.1 2)) 1) = (-1) from b43)] at hx
      exact ih (g_X4_fly x (nI j)) (j + 1) b s _ _ _ (by omega) hx
def f_X11_quickestShortestThrow (x : kK) (a1 : Int32) : Int32 := (qsL a1 64 x 0 (-1) 0).2
def g_X11_quickestShortestThrow (x : kK) (a1 : Int32) : kK := (qsL a1 64 x 0 (-1) 0).1
set_option maxRecDepth 100000 in
set_option maxHeartbeats 4000000 in
theorem m_X11_quickestShortestThrow {x : kK} {r : kH} {a1 : Int32} : kMet kX11_quickestShortestThrow false 0 0 [.ref 0, .int a1] (kTp (kHc x) r) 130 (kRt (some (.int (f_X11_quickestShortestThrow x a1))) (kTp (kHc (g_X11_quickestShortestThrow x a1)) r) 130) := by
  refine kMet.in (by decide) rfl rfl _ rfl ?_
  refine k_iconst (v := (-1)) dX11_quickestShortestThrow_0 (rfl : 0 + 1 = 1) (by decide) ?_
  refine k_istore_n (i := 2) dX11_quickestShortestThrow_1 (rfl : 1 + 1 = 2) rfl (Nat.le_of_ble_eq_true rfl) ?_
  refine k_ls (ls2 := [.ref 0, .int a1, .int (-1), .retAddr 0, .retAddr 0, .retAddr 0, .retAddr 0, .retAddr 0]) rfl ?_
  refine k_iconst (v := 0) dX11_quickestShortestThrow_2 (rfl : 2 + 1 = 3) (by decide) ?_
  refine k_istore_n (i := 3) dX11_quickestShortestThrow_3 (rfl : 3 + 1 = 4) rfl (Nat.le_of_ble_eq_true rfl) ?_
  refine k_ls (ls2 := [.ref 0, .int a1, .int (-1), .int 0, .retAddr 0, .retAddr 0, .retAddr 0, .retAddr 0]) rfl ?_
  refine k_iconst (v := 0) dX11_quickestShortestThrow_4 (rfl : 4 + 1 = 5) (by decide) ?_
  refine k_istore (i := 4) dX11_quickestShortestThrow_5 (rfl : 5 + 2 = 7) (Nat.le_of_ble_eq_true rfl) ?_
  refine k_ls (ls2 := [.ref 0, .int a1, .int (-1), .int 0, .int 0, .retAddr 0, .retAddr 0, .retAddr 0]) rfl ?_
  refine lqsL (c := a1) 64 x 0 (-1) 0 _ _ _ (by omega) (fun z4 z3 z5 z6 z7 => ?_)
  generalize hw7 : (qsL a1 64 x 0 (-1) 0) = w7
  refine k_iload_n (i := 2) dX11_quickestShortestThrow_125 (rfl : 125 + 1 = 126) rfl rfl ?_
  refine k_iret rfl rfl dX11_quickestShortestThrow_126 (Nat.le_of_ble_eq_true rfl) (Nat.le_of_ble_eq_true rfl) ?_
  subst hw7
  exact kRt_of rfl rfl
