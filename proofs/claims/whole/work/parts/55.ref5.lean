theorem i8 {i : Int32} (h : i = (-1) ∨ kP8 i) (h0 : ¬ i < 0) : kP8 i := by
  rcases h with h | h
  · subst h
    exact absurd (by decide) h0
  · exact h
theorem mh_t {v : Int32} {H j : Nat} (e : v = nI H) (hj : j = 49) (hH : H < 2 ^ 30) : v + 48 < nI (H + j) := by
  rw [e, hj, show nI H + 48 = nI (H + 48) from nI_add H 48]
  exact nI_lt (by omega) (by omega)
theorem mh_f {v : Int32} {H j : Nat} (e : v = nI H) (hj : j < 49) (hH : H < 2 ^ 30) : ¬ v + 48 < nI (H + j) := by
  rw [e, show nI H + 48 = nI (H + 48) from nI_add H 48]
  exact nI_nlt (by omega) (by omega)
def mhI (v : Nat → Int32) (u : Int32) (h : Int32) : Nat → Nat → Int32 → Int32
  | 0, j, i => i
  | k + 1, j, i => if (f_X12_sitsAt v h) = 0 then i else (if ((u >>> (((nI j) : Int32) &&& 31)) &&& 1) = 1 then (mhI v u h k (j + 1) i) else (if h < (v (Int32.toNatClampNeg (f_X12_pleaAt (nI j) 1))) then (mhI v u h k (j + 1) i) else (if h ≤ (f_X12_until v (nI j)) then (if i < 0 then (mhI v u h k (j + 1) (nI j)) else (if (f_X12_until v i) ≤ (f_X12_until v (nI j)) then (mhI v u h k (j + 1) i) else (mhI v u h k (j + 1) (nI j)))) else (mhI v u h k (j + 1) i))))
set_option maxRecDepth 100000 in
set_option maxHeartbeats 4000000 in
theorem lmhI {x : kY} {a9 : kH} {z9 : kE × kE} {Q : kQ} {u : Int32} {h : Int32} {e : Int32}  (hv : kMv (x.2 0)) : ∀ (k : Nat) (j : Nat) (i : Int32), j + k = (Int32.toNatClampNeg ((x.2 0) 7)) → i = (-1) ∨ kP8 i → (∀ (z5 : Value), kEv kX12_mostHearings (kRm kX12_mostHearings 0 0) (kFm false 0 0 (Q)) false 123 [.ref 116, .int u, .int e, .int h, .int (mhI (x.2 0) u h k j i), z5] [] (kTp a9 (kHr x z9)) 130 0 0) → kEv kX12_mostHearings (kRm kX12_mostHearings 0 0) (kFm false 0 0 (Q)) false 35 [.ref 116, .int u, .int e, .int h, .int i, .int (nI j)] [] (kTp a9 (kHr x z9)) 130 0 0 := by
  intro k
  induction k with
  | zero =>
    intro j i hj hi hx
    refine k_iload (i := 5) dX12_mostHearings_35 (rfl : 35 + 2 = 37) rfl ?_
    refine k_aload_n (i := 0) dX12_mostHearings_37 (rfl : 37 + 1 = 38) rfl rfl ?_
    refine k_get 12 7 fg_X12_16 dX12_mostHearings_38 (rfl : 38 + 3 = 41) (Nat.le_of_ble_eq_true rfl) rfl rfl ?_
    refine k_bipush (v := 7) dX12_mostHearings_41 (rfl : 41 + 2 = 43) (by decide) ?_
    refine k_ialdc (c := 7) (by decide) dX12_mostHearings_43 (rfl : 43 + 1 = 44) (Nat.le_of_ble_eq_true rfl) rfl (vp_in_iff.mpr (by decide)) ?_
    refine k_icmp_ge (tgt := 123) dX12_mostHearings_44 (rfl : 44 + 3 = 47) (by decide) (fun b44 => ?_) (fun b44 => by exact absurd (cl_le (by omega)) b44)
    rw [mhI] at hx
    exact hx _
  | succ k ih =>
    intro j i hj hi hx
    refine k_iload (i := 5) dX12_mostHearings_35 (rfl : 35 + 2 = 37) rfl ?_
    refine k_aload_n (i := 0) dX12_mostHearings_37 (rfl : 37 + 1 = 38) rfl rfl ?_
    refine k_get 12 7 fg_X12_16 dX12_mostHearings_38 (rfl : 38 + 3 = 41) (Nat.le_of_ble_eq_true rfl) rfl rfl ?_
    refine k_bipush (v := 7) dX12_mostHearings_41 (rfl : 41 + 2 = 43) (by decide) ?_
    refine k_ialdc (c := 7) (by decide) dX12_mostHearings_43 (rfl : 43 + 1 = 44) (Nat.le_of_ble_eq_true rfl) rfl (vp_in_iff.mpr (by decide)) ?_
    refine k_icmp_ge (tgt := 123) dX12_mostHearings_44 (rfl : 44 + 3 = 47) (by decide) (fun b44 => by exact absurd b44 (cl_nle (by omega))) (fun b44 => ?_)
    refine k_aload_n (i := 0) dX12_mostHearings_47 (rfl : 47 + 1 = 48) rfl rfl ?_
    refine k_iload_n (i := 3) dX12_mostHearings_48 (rfl : 48 + 1 = 49) rfl rfl ?_
    refine k_callVd1 cv_X12_184 ⟨Nat.le_of_ble_eq_true rfl, Nat.le_of_ble_eq_true rfl⟩ (m_X12_sitsAt) dX12_mostHearings_49 (rfl : 49 + 3 = 52) (Nat.le_of_ble_eq_true rfl) rfl rfl rfl ⟨Nat.le_of_ble_eq_true rfl, Nat.le_of_ble_eq_true rfl⟩ ?_
    refine k_if_eq (tgt := 123) dX12_mostHearings_52 (rfl : 52 + 3 = 55) (by decide) (fun b52 => ?_) (fun b52 => ?_)
    · rw [mhI, if_pos (show (f_X12_sitsAt (x.2 0) h) = 0 from b52)] at hx
      exact hx _
    · refine k_iload_n (i := 1) dX12_mostHearings_55 (rfl : 55 + 1 = 56) rfl rfl ?_
      refine k_iload (i := 5) dX12_mostHearings_56 (rfl : 56 + 2 = 58) rfl ?_
      refine k_ishr dX12_mostHearings_58 (rfl : 58 + 1 = 59) ?_
      refine k_iconst (v := 1) dX12_mostHearings_59 (rfl : 59 + 1 = 60) (by decide) ?_
      refine k_iand dX12_mostHearings_60 (rfl : 60 + 1 = 61) ?_
      refine k_iconst (v := 1) dX12_mostHearings_61 (rfl : 61 + 1 = 62) (by decide) ?_
      refine k_icmp_eq (tgt := 117) dX12_mostHearings_62 (rfl : 62 + 3 = 65) (by decide) (fun b62 => ?_) (fun b62 => ?_)
      · refine k_iinc (i := 5) (v := (nI (j + 1))) dX12_mostHearings_117 (rfl : 117 + 3 = 120) rfl (Nat.le_of_ble_eq_true rfl) (nI_1 _) ?_
        refine k_ls (ls2 := [.ref 116, .int u, .int e, .int h, .int i, .int (nI (j + 1))]) rfl ?_
        refine k_goto (tgt := 35) dX12_mostHearings_120 (by decide) ?_
        rw [mhI, if_neg (show ¬ ((f_X12_sitsAt (x.2 0) h) = 0) from b52), if_pos (show ((u >>> (((nI j) : Int32) &&& 31)) &&& 1) = 1 from b62)] at hx
        exact ih (j + 1) i (by omega) hi hx
      · refine k_aload_n (i := 0) dX12_mostHearings_65 (rfl : 65 + 1 = 66) rfl rfl ?_
        refine k_get 12 7 fg_X12_16 dX12_mostHearings_66 (rfl : 66 + 3 = 69) (Nat.le_of_ble_eq_true rfl) rfl rfl ?_
        refine k_iload (i := 5) dX12_mostHearings_69 (rfl : 69 + 2 = 71) rfl ?_
        refine k_iconst (v := 1) dX12_mostHearings_71 (rfl : 71 + 1 = 72) (by decide) ?_
        refine k_callSd2 cv_X12_77 ⟨Nat.le_of_ble_eq_true rfl, Nat.le_of_ble_eq_true rfl⟩ (m_X12_pleaAt) dX12_mostHearings_72 (rfl : 72 + 3 = 75) rfl ⟨Nat.le_of_ble_eq_true rfl, Nat.le_of_ble_eq_true rfl⟩ ?_
        refine k_iald dX12_mostHearings_75 (rfl : 75 + 1 = 76) (Nat.le_of_ble_eq_true rfl) rfl (p8_plea ⟨j, by have := mv_p hv; omega, rfl⟩ w3_1) ?_
        refine k_iload_n (i := 3) dX12_mostHearings_76 (rfl : 76 + 1 = 77) rfl rfl ?_
        refine k_icmp_gt (tgt := 117) dX12_mostHearings_77 (rfl : 77 + 3 = 80) (by decide) (fun b77 => ?_) (fun b77 => ?_)
        · refine k_iinc (i := 5) (v := (nI (j + 1))) dX12_mostHearings_117 (rfl : 117 + 3 = 120) rfl (Nat.le_of_ble_eq_true rfl) (nI_1 _) ?_
          refine k_ls (ls2 := [.ref 116, .int u, .int e, .int h, .int i, .int (nI (j + 1))]) rfl ?_
          refine k_goto (tgt := 35) dX12_mostHearings_120 (by decide) ?_
          rw [mhI, if_neg (show ¬ ((f_X12_sitsAt (x.2 0) h) = 0) from b52), if_neg (show ¬ (((u >>> (((nI j) : Int32) &&& 31)) &&& 1) = 1) from b62), if_pos (show h < ((x.2 0) (Int32.toNatClampNeg (f_X12_pleaAt (nI j) 1))) from b77)] at hx
          exact ih (j + 1) i (by omega) hi hx
        · refine k_aload_n (i := 0) dX12_mostHearings_80 (rfl : 80 + 1 = 81) rfl rfl ?_
          refine k_iload (i := 5) dX12_mostHearings_81 (rfl : 81 + 2 = 83) rfl ?_
          refine k_callVd1 cv_X12_197 ⟨Nat.le_of_ble_eq_true rfl, Nat.le_of_ble_eq_true rfl⟩ (m_X12_until ⟨j, by have := mv_p hv; omega, rfl⟩) dX12_mostHearings_83 (rfl : 83 + 3 = 86) (Nat.le_of_ble_eq_true rfl) rfl rfl rfl ⟨Nat.le_of_ble_eq_true rfl, Nat.le_of_ble_eq_true rfl⟩ ?_
          refine k_iload_n (i := 3) dX12_mostHearings_86 (rfl : 86 + 1 = 87) rfl rfl ?_
          refine k_icmp_ge (tgt := 93) dX12_mostHearings_87 (rfl : 87 + 3 = 90) (by decide) (fun b87 => ?_) (fun b87 => ?_)
          · refine k_iload (i := 4) dX12_mostHearings_93 (rfl : 93 + 2 = 95) rfl ?_
            refine k_if_lt (tgt := 113) dX12_mostHearings_95 (rfl : 95 + 3 = 98) (by decide) (fun b95 => ?_) (fun b95 => ?_)
            · refine k_iload (i := 5) dX12_mostHearings_113 (rfl : 113 + 2 = 115) rfl ?_
              refine k_istore (i := 4) dX12_mostHearings_115 (rfl : 115 + 2 = 117) (Nat.le_of_ble_eq_true rfl) ?_
              refine k_ls (ls2 := [.ref 116, .int u, .int e, .int h, .int (nI j), .int (nI j)]) rfl ?_
              refine k_iinc (i := 5) (v := (nI (j + 1))) dX12_mostHearings_117 (rfl : 117 + 3 = 120) rfl (Nat.le_of_ble_eq_true rfl) (nI_1 _) ?_
              refine k_ls (ls2 := [.ref 116, .int u, .int e, .int h, .int (nI j), .int (nI (j + 1))]) rfl ?_
              refine k_goto (tgt := 35) dX12_mostHearings_120 (by decide) ?_
              rw [mhI, if_neg (show ¬ ((f_X12_sitsAt (x.2 0) h) = 0) from b52), if_neg (show ¬ (((u >>> (((nI j) : Int32) &&& 31)) &&& 1) = 1) from b62), if_neg (show ¬ (h < ((x.2 0) (Int32.toNatClampNeg (f_X12_pleaAt (nI j) 1)))) from b77), if_pos (show h ≤ (f_X12_until (x.2 0) (nI j)) from b87), if_pos (show i < 0 from b95)] at hx
              exact ih (j + 1) (nI j) (by omega) (Or.inr ⟨j, by have := mv_p hv; omega, rfl⟩) hx
            · refine k_aload_n (i := 0) dX12_mostHearings_98 (rfl : 98 + 1 = 99) rfl rfl ?_
              refine k_iload (i := 5) dX12_mostHearings_99 (rfl : 99 + 2 = 101) rfl ?_
              refine k_callVd1 cv_X12_197 ⟨Nat.le_of_ble_eq_true rfl, Nat.le_of_ble_eq_true rfl⟩ (m_X12_until ⟨j, by have := mv_p hv; omega, rfl⟩) dX12_mostHearings_101 (rfl : 101 + 3 = 104) (Nat.le_of_ble_eq_true rfl) rfl rfl rfl ⟨Nat.le_of_ble_eq_true rfl, Nat.le_of_ble_eq_true rfl⟩ ?_
              refine k_aload_n (i := 0) dX12_mostHearings_104 (rfl : 104 + 1 = 105) rfl rfl ?_
              refine k_iload (i := 4) dX12_mostHearings_105 (rfl : 105 + 2 = 107) rfl ?_
              refine k_callVd1 cv_X12_197 ⟨Nat.le_of_ble_eq_true rfl, Nat.le_of_ble_eq_true rfl⟩ (m_X12_until (i8 hi b95)) dX12_mostHearings_107 (rfl : 107 + 3 = 110) (Nat.le_of_ble_eq_true rfl) rfl rfl rfl ⟨Nat.le_of_ble_eq_true rfl, Nat.le_of_ble_eq_true rfl⟩ ?_
              refine k_icmp_ge (tgt := 117) dX12_mostHearings_110 (rfl : 110 + 3 = 113) (by decide) (fun b110 => ?_) (fun b110 => ?_)
              · refine k_iinc (i := 5) (v := (nI (j + 1))) dX12_mostHearings_117 (rfl : 117 + 3 = 120) rfl (Nat.le_of_ble_eq_true rfl) (nI_1 _) ?_
                refine k_ls (ls2 := [.ref 116, .int u, .int e, .int h, .int i, .int (nI (j + 1))]) rfl ?_
                refine k_goto (tgt := 35) dX12_mostHearings_120 (by decide) ?_
                rw [mhI, if_neg (show ¬ ((f_X12_sitsAt (x.2 0) h) = 0) from b52), if_neg (show ¬ (((u >>> (((nI j) : Int32) &&& 31)) &&& 1) = 1) from b62), if_neg (show ¬ (h < ((x.2 0) (Int32.toNatClampNeg (f_X12_pleaAt (nI j) 1)))) from b77), if_pos (show h ≤ (f_X12_until (x.2 0) (nI j)) from b87), if_neg (show ¬ (i < 0) from b95), if_pos (show (f_X12_until (x.2 0) i) ≤ (f_X12_until (x.2 0) (nI j)) from b110)] at hx
                exact ih (j + 1) i (by omega) hi hx
              · refine k_iload (i := 5) dX12_mostHearings_113 (rfl : 113 + 2 = 115) rfl ?_
                refine k_istore (i := 4) dX12_mostHearings_115 (rfl : 115 + 2 = 117) (Nat.le_of_ble_eq_true rfl) ?_
                refine k_ls (ls2 := [.ref 116, .int u, .int e, .int h, .int (nI j), .int (nI j)]) rfl ?_
                refine k_iinc (i := 5) (v := (nI (j + 1))) dX12_mostHearings_117 (rfl : 117 + 3 = 120) rfl (Nat.le_of_ble_eq_true rfl) (nI_1 _) ?_
                refine k_ls (ls2 := [.ref 116, .int u, .int e, .int h, .int (nI j), .int (nI (j + 1))]) rfl ?_
                refine k_goto (tgt := 35) dX12_mostHearings_120 (by decide) ?_
                rw [mhI, if_neg (show ¬ ((f_X12_sitsAt (x.2 0) h) = 0) from b52), if_neg (show ¬ (((u >>> (((nI j) : Int32) &&& 31)) &&& 1) = 1) from b62), if_neg (show ¬ (h < ((x.2 0) (Int32.toNatClampNeg (f_X12_pleaAt (nI j) 1)))) from b77), if_pos (show h ≤ (f_X12_until (x.2 0) (nI j)) from b87), if_neg (show ¬ (i < 0) from b95), if_neg (show ¬ ((f_X12_until (x.2 0) i) ≤ (f_X12_until (x.2 0) (nI j))) from b110)] at hx
                exact ih (j + 1) (nI j) (by omega) (Or.inr ⟨j, by have := mv_p hv; omega, rfl⟩) hx
          · refine k_goto (tgt := 117) dX12_mostHearings_90 (by decide) ?_
            refine k_iinc (i := 5) (v := (nI (j + 1))) dX12_mostHearings_117 (rfl : 117 + 3 = 120) rfl (Nat.le_of_ble_eq_true rfl) (nI_1 _) ?_
            refine k_ls (ls2 := [.ref 116, .int u, .int e, .int h, .int i, .int (nI (j + 1))]) rfl ?_
            refine k_goto (tgt := 35) dX12_mostHearings_120 (by decide) ?_
            rw [mhI, if_neg (show ¬ ((f_X12_sitsAt (x.2 0) h) = 0) from b52), if_neg (show ¬ (((u >>> (((nI j) : Int32) &&& 31)) &&& 1) = 1) from b62), if_neg (show ¬ (h < ((x.2 0) (Int32.toNatClampNeg (f_X12_pleaAt (nI j) 1)))) from b77), if_neg (show ¬ (h ≤ (f_X12_until (x.2 0) (nI j))) from b87)] at hx
            exact ih (j + 1) i (by omega) hi hx
def mhL (v : Nat → Int32) (H : Nat) : Nat → Nat → Int32 → Int32 → Int32
  | 0, j, u, e => e
  | k + 1, j, u, e => if 0 ≤ (mhI v u (nI (H + j)) (Int32.toNatClampNeg (v 7)) 0 (-1)) then (mhL v H k (j + 1) (u ||| (1 <<< (((mhI v u (nI (H + j)) (Int32.toNatClampNeg (v 7)) 0 (-1)) : Int32) &&& 31))) (e + Int32.ofInt 1)) else (mhL v H k (j + 1) u e)
set_option maxRecDepth 100000 in
set_option maxHeartbeats 4000000 in
theorem lmhL {x : kY} {a9 : kH} {z9 : kE × kE} {Q : kQ} {H : Nat}  (hv : kMv (x.2 0)) (hH : H < 2 ^ 30) (e0 : (x.2 0) 0 = nI H) : ∀ (k : Nat) (j : Nat) (u : Int32) (e : Int32) (t4 : Value) (t5 : Value), j + k = 49 → (∀ (z3 : Value) (z1 : Value) (z4 : Value) (z5 : Value), kEv kX12_mostHearings (kRm kX12_mostHearings 0 0) (kFm false 0 0 (Q)) false 147 [.ref 116, z1, .int (mhL (x.2 0) H k j u e), z3, z4, z5] [] (kTp a9 (kHr x z9)) 130 0 0) → kEv kX12_mostHearings (kRm kX12_mostHearings 0 0) (kFm false 0 0 (Q)) false 16 [.ref 116, .int u, .int e, .int (nI (H + j)), t4, t5] [] (kTp a9 (kHr x z9)) 130 0 0 := by
  intro k
  induction k with
  | zero =>
    intro j u e t4 t5 hj hx
    refine k_iload_n (i := 3) dX12_mostHearings_16 (rfl : 16 + 1 = 17) rfl rfl ?_
    refine k_aload_n (i := 0) dX12_mostHearings_17 (rfl : 17 + 1 = 18) rfl rfl ?_
    refine k_get 12 7 fg_X12_16 dX12_mostHearings_18 (rfl : 18 + 3 = 21) (Nat.le_of_ble_eq_true rfl) rfl rfl ?_
    refine k_iconst (v := 0) dX12_mostHearings_21 (rfl : 21 + 1 = 22) (by decide) ?_
    refine k_ialdc (c := 0) (by decide) dX12_mostHearings_22 (rfl : 22 + 1 = 23) (Nat.le_of_ble_eq_true rfl) rfl (vp_in_iff.mpr (by decide)) ?_
    refine k_bipush (v := 48) dX12_mostHearings_23 (rfl : 23 + 2 = 25) (by decide) ?_
    refine k_iadd dX12_mostHearings_25 (rfl : 25 + 1 = 26) ?_
    refine k_icmp_gt (tgt := 147) dX12_mostHearings_26 (rfl : 26 + 3 = 29) (by decide) (fun b26 => ?_) (fun b26 => by exact absurd (mh_t e0 (by omega) hH) b26)
    rw [mhL] at hx
    exact hx _ _ _ _
  | succ k ih =>
    intro j u e t4 t5 hj hx
    refine k_iload_n (i := 3) dX12_mostHearings_16 (rfl : 16 + 1 = 17) rfl rfl ?_
    refine k_aload_n (i := 0) dX12_mostHearings_17 (rfl : 17 + 1 = 18) rfl rfl ?_
    refine k_get 12 7 fg_X12_16 dX12_mostHearings_18 (rfl : 18 + 3 = 21) (Nat.le_of_ble_eq_true rfl) rfl rfl ?_
    refine k_iconst (v := 0) dX12_mostHearings_21 (rfl : 21 + 1 = 22) (by decide) ?_
    refine k_ialdc (c := 0) (by decide) dX12_mostHearings_22 (rfl : 22 + 1 = 23) (Nat.le_of_ble_eq_true rfl) rfl (vp_in_iff.mpr (by decide)) ?_
    refine k_bipush (v := 48) dX12_mostHearings_23 (rfl : 23 + 2 = 25) (by decide) ?_
    refine k_iadd dX12_mostHearings_25 (rfl : 25 + 1 = 26) ?_
    refine k_icmp_gt (tgt := 147) dX12_mostHearings_26 (rfl : 26 + 3 = 29) (by decide) (fun b26 => by exact absurd b26 (mh_f e0 (by omega) hH)) (fun b26 => ?_)
    refine k_iconst (v := (-1)) dX12_mostHearings_29 (rfl : 29 + 1 = 30) (by decide) ?_
    refine k_istore (i := 4) dX12_mostHearings_30 (rfl : 30 + 2 = 32) (Nat.le_of_ble_eq_true rfl) ?_
    refine k_ls (ls2 := [.ref 116, .int u, .int e, .int (nI (H + j)), .int (-1), t5]) rfl ?_
    refine k_iconst (v := 0) dX12_mostHearings_32 (rfl : 32 + 1 = 33) (by decide) ?_
    refine k_istore (i := 5) dX12_mostHearings_33 (rfl : 33 + 2 = 35) (Nat.le_of_ble_eq_true rfl) ?_
    refine k_ls (ls2 := [.ref 116, .int u, .int e, .int (nI (H + j)), .int (-1), .int 0]) rfl ?_
    refine lmhI (u := u) (h := (nI (H + j))) hv (Int32.toNatClampNeg ((x.2 0) 7)) 0 (-1) (by omega) (Or.inl rfl) (fun z5 => ?_)
    generalize hw35 : (mhI (x.2 0) u (nI (H + j)) (Int32.toNatClampNeg ((x.2 0) 7)) 0 (-1)) = w35
    refine k_iload (i := 4) dX12_mostHearings_123 (rfl : 123 + 2 = 125) rfl ?_
    refine k_if_ge (tgt := 131) dX12_mostHearings_125 (rfl : 125 + 3 = 128) (by decide) (fun b125 => ?_) (fun b125 => ?_)
    · refine k_iload_n (i := 1) dX12_mostHearings_131 (rfl : 131 + 1 = 132) rfl rfl ?_
      refine k_iconst (v := 1) dX12_mostHearings_132 (rfl : 132 + 1 = 133) (by decide) ?_
      refine k_iload (i := 4) dX12_mostHearings_133 (rfl : 133 + 2 = 135) rfl ?_
      refine k_ishl dX12_mostHearings_135 (rfl : 135 + 1 = 136) ?_
      refine k_ior dX12_mostHearings_136 (rfl : 136 + 1 = 137) ?_
      refine k_istore_n (i := 1) dX12_mostHearings_137 (rfl : 137 + 1 = 138) rfl (Nat.le_of_ble_eq_true rfl) ?_
      refine k_ls (ls2 := [.ref 116, .int (u ||| (1 <<< ((w35 : Int32) &&& 31))), .int e, .int (nI (H + j)), .int w35, z5]) rfl ?_
      refine k_iinc (i := 2) dX12_mostHearings_138 (rfl : 138 + 3 = 141) rfl (Nat.le_of_ble_eq_true rfl) rfl ?_
      refine k_ls (ls2 := [.ref 116, .int (u ||| (1 <<< ((w35 : Int32) &&& 31))), .int (e + Int32.ofInt 1), .int (nI (H + j)), .int w35, z5]) rfl ?_
      refine k_iinc (i := 3) (v := (nI (H + (j + 1)))) dX12_mostHearings_141 (rfl : 141 + 3 = 144) rfl (Nat.le_of_ble_eq_true rfl) (nI_1 _) ?_
      refine k_ls (ls2 := [.ref 116, .int (u ||| (1 <<< ((w35 : Int32) &&& 31))), .int (e + Int32.ofInt 1), .int (nI (H + (j + 1))), .int w35, z5]) rfl ?_
      refine k_goto (tgt := 16) dX12_mostHearings_144 (by decide) ?_
      subst hw35
      rw [mhL, if_pos (show 0 ≤ (mhI (x.2 0) u (nI (H + j)) (Int32.toNatClampNeg ((x.2 0) 7)) 0 (-1)) from b125)] at hx
      exact ih (j + 1) (u ||| (1 <<< (((mhI (x.2 0) u (nI (H + j)) (Int32.toNatClampNeg ((x.2 0) 7)) 0 (-1)) : Int32) &&& 31))) (e + Int32.ofInt 1) _ _ (by omega) hx
    · refine k_goto (tgt := 141) dX12_mostHearings_128 (by decide) ?_
      refine k_iinc (i := 3) (v := (nI (H + (j + 1)))) dX12_mostHearings_141 (rfl : 141 + 3 = 144) rfl (Nat.le_of_ble_eq_true rfl) (nI_1 _) ?_
      refine k_ls (ls2 := [.ref 116, .int u, .int e, .int (nI (H + (j + 1))), .int w35, z5]) rfl ?_
      refine k_goto (tgt := 16) dX12_mostHearings_144 (by decide) ?_
      subst hw35
      rw [mhL, if_neg (show ¬ (0 ≤ (mhI (x.2 0) u (nI (H + j)) (Int32.toNatClampNeg ((x.2 0) 7)) 0 (-1))) from b125)] at hx
      exact ih (j + 1) u e _ _ (by omega) hx
theorem mh_s {a : Int32} (h : ∃ n, n < 2 ^ 30 ∧ a = nI n) : Int32.toNatClampNeg a < 2 ^ 30 ∧ a = nI (Int32.toNatClampNeg a) := by
  obtain ⟨n, hn, rfl⟩ := h
  rw [nI_clamp (by omega)]
  exact ⟨hn, rfl⟩
def f_X12_mostHearings (x : kY)  : Int32 := (mhL (x.2 0) (Int32.toNatClampNeg ((x.2 0) 0)) 49 0 0 0)
def g_X12_mostHearings (x : kY)  : kY := (yS x 0 0)
set_option maxRecDepth 100000 in
set_option maxHeartbeats 4000000 in
theorem m_X12_mostHearings {x : kY} {a9 : kH} {z9 : kE × kE} (hv : kMv (x.2 0)) (hh : ∃ n, n < 2 ^ 30 ∧ (x.2 0) 0 = nI n) : kMet kX12_mostHearings false 0 0 [.ref 116] (kTp a9 (kHr x z9)) 130 (kRt (some (.int (f_X12_mostHearings x ))) (kTp a9 (kHr (g_X12_mostHearings x ) z9)) 130) := by
  refine kMet.in (by decide) rfl rfl _ rfl ?_
  refine k_aload_n (i := 0) dX12_mostHearings_0 (rfl : 0 + 1 = 1) rfl rfl ?_
  refine k_iconst (v := 0) dX12_mostHearings_1 (rfl : 1 + 1 = 2) (by decide) ?_
  refine k_put 12 0 fp_X12_50 dX12_mostHearings_2 (rfl : 2 + 3 = 5) (Nat.le_of_ble_eq_true rfl) rfl (Nat.le_of_ble_eq_true rfl) rfl rfl ?_
  refine kf_Y0 (v := 0) rfl ?_
  refine k_iconst (v := 0) dX12_mostHearings_5 (rfl : 5 + 1 = 6) (by decide) ?_
  refine k_istore_n (i := 1) dX12_mostHearings_6 (rfl : 6 + 1 = 7) rfl (Nat.le_of_ble_eq_true rfl) ?_
  refine k_ls (ls2 := [.ref 116, .int 0, .retAddr 0, .retAddr 0, .retAddr 0, .retAddr 0]) rfl ?_
  refine k_iconst (v := 0) dX12_mostHearings_7 (rfl : 7 + 1 = 8) (by decide) ?_
  refine k_istore_n (i := 2) dX12_mostHearings_8 (rfl : 8 + 1 = 9) rfl (Nat.le_of_ble_eq_true rfl) ?_
  refine k_ls (ls2 := [.ref 116, .int 0, .int 0, .retAddr 0, .retAddr 0, .retAddr 0]) rfl ?_
  refine k_aload_n (i := 0) dX12_mostHearings_9 (rfl : 9 + 1 = 10) rfl rfl ?_
  refine k_get 12 7 fg_X12_16 dX12_mostHearings_10 (rfl : 10 + 3 = 13) (Nat.le_of_ble_eq_true rfl) rfl rfl ?_
  refine k_iconst (v := 0) dX12_mostHearings_13 (rfl : 13 + 1 = 14) (by decide) ?_
  refine k_ialdc (c := 0) (by decide) dX12_mostHearings_14 (rfl : 14 + 1 = 15) (Nat.le_of_ble_eq_true rfl) rfl (vp_in_iff.mpr (by decide)) ?_
  refine k_istore_n (i := 3) dX12_mostHearings_15 (rfl : 15 + 1 = 16) rfl (Nat.le_of_ble_eq_true rfl) ?_
  refine k_ls (ls2 := [.ref 116, .int 0, .int 0, .int ((x.2 0) 0), .retAddr 0, .retAddr 0]) rfl ?_
  refine k_ls (ls2 := [.ref 116, .int 0, .int 0, .int (nI ((Int32.toNatClampNeg ((x.2 0) 0)) + 0)), .retAddr 0, .retAddr 0]) (by rw [Nat.add_zero, ← (mh_s hh).2]) ?_
  refine lmhL (x := (yS x 0 0)) (H := (Int32.toNatClampNeg ((x.2 0) 0))) hv (mh_s hh).1 (mh_s hh).2 49 0 0 0 _ _ (by omega) (fun z3 z1 z4 z5 => ?_)
  generalize hw16 : (mhL (x.2 0) (Int32.toNatClampNeg ((x.2 0) 0)) 49 0 0 0) = w16
  refine k_iload_n (i := 2) dX12_mostHearings_147 (rfl : 147 + 1 = 148) rfl rfl ?_
  refine k_iret rfl rfl dX12_mostHearings_148 (Nat.le_of_ble_eq_true rfl) (Nat.le_of_ble_eq_true rfl) ?_
  subst hw16
  exact kRt_of rfl rfl
def siL (v : Nat → Int32) : Nat → Nat → Int64 → Int64
  | 0, j, s => s
  | k + 1, j, s => (siL v k (j + 1) ((s ^^^ (1 <<< (Int32.toInt64 (f_X12_cellOfParty v (nI j)) &&& 63))) * (31 : Int64)))
set_option maxRecDepth 100000 in
set_option maxHeartbeats 4000000 in
theorem lsiL {x : kY} {a9 : kH} {z9 : kE × kE} {Q : kQ}  (hv : kMv (x.2 0)) : ∀ (k : Nat) (j : Nat) (s : Int64), j + k = (Int32.toNatClampNeg ((x.2 0) 6)) → (∀ (z3 : Value), kEv kX12_signature (kRm kX12_signature 0 0) (kFm false 0 0 (Q)) false 48 [.ref 116, .long (siL (x.2 0) k j s), .retAddr 0, z3] [] (kTp a9 (kHr x z9)) 130 0 0) → kEv kX12_signature (kRm kX12_signature 0 0) (kFm false 0 0 (Q)) false 17 [.ref 116, .long s, .retAddr 0, .int (nI j)] [] (kTp a9 (kHr x z9)) 130 0 0 := by
  intro k
  induction k with
  | zero =>
    intro j s hj hx
    refine k_iload_n (i := 3) dX12_signature_17 (rfl : 17 + 1 = 18) rfl rfl ?_
    refine k_aload_n (i := 0) dX12_signature_18 (rfl : 18 + 1 = 19) rfl rfl ?_
    refine k_get 12 7 fg_X12_16 dX12_signature_19 (rfl : 19 + 3 = 22) (Nat.le_of_ble_eq_true rfl) rfl rfl ?_
    refine k_bipush (v := 6) dX12_signature_22 (rfl : 22 + 2 = 24) (by decide) ?_
    refine k_ialdc (c := 6) (by decide) dX12_signature_24 (rfl : 24 + 1 = 25) (Nat.le_of_ble_eq_true rfl) rfl (vp_in_iff.mpr (by decide)) ?_
    refine k_icmp_ge (tgt := 48) dX12_signature_25 (rfl : 25 + 3 = 28) (by decide) (fun b25 => ?_) (fun b25 => by exact absurd (cl_le (by omega)) b25)
    rw [siL] at hx
    exact hx _
  | succ k ih =>
    intro j s hj hx
    refine k_iload_n (i := 3) dX12_signature_17 (rfl : 17 + 1 = 18) rfl rfl ?_
    refine k_aload_n (i := 0) dX12_signature_18 (rfl : 18 + 1 = 19) rfl rfl ?_
    refine k_get 12 7 fg_X12_16 dX12_signature_19 (rfl : 19 + 3 = 22) (Nat.le_of_ble_eq_true rfl) rfl rfl ?_
    refine k_bipush (v := 6) dX12_signature_22 (rfl : 22 + 2 = 24) (by decide) ?_
    refine k_ialdc (c := 6) (by decide) dX12_signature_24 (rfl : 24 + 1 = 25) (Nat.le_of_ble_eq_true rfl) rfl (vp_in_iff.mpr (by decide)) ?_
    refine k_icmp_ge (tgt := 48) dX12_signature_25 (rfl : 25 + 3 = 28) (by decide) (fun b25 => by exact absurd b25 (cl_nle (by omega))) (fun b25 => ?_)
    refine k_lload_n (i := 1) dX12_signature_28 (rfl : 28 + 1 = 29) rfl rfl ?_
    refine k_lconst (v := 1) dX12_signature_29 (rfl : 29 + 1 = 30) (by decide) ?_
    refine k_aload_n (i := 0) dX12_signature_30 (rfl : 30 + 1 = 31) rfl rfl ?_
    refine k_iload_n (i := 3) dX12_signature_31 (rfl : 31 + 1 = 32) rfl rfl ?_
    refine k_callVd1 cv_X12_74 ⟨Nat.le_of_ble_eq_true rfl, Nat.le_of_ble_eq_true rfl⟩ (m_X12_cellOfParty ⟨j, by have := mv_n hv; omega, rfl⟩) dX12_signature_32 (rfl : 32 + 3 = 35) (Nat.le_of_ble_eq_true rfl) rfl rfl rfl ⟨Nat.le_of_ble_eq_true rfl, Nat.le_of_ble_eq_true rfl⟩ ?_
    refine k_lshl dX12_signature_35 (rfl : 35 + 1 = 36) ?_
    refine k_lxor dX12_signature_36 (rfl : 36 + 1 = 37) ?_
    refine k_ldc2 dX12_signature_37 (rfl : 37 + 3 = 40) kc_X12_226 ?_
    refine k_lmul dX12_signature_40 (rfl : 40 + 1 = 41) ?_
    refine k_lstore_n (i := 1) dX12_signature_41 (rfl : 41 + 1 = 42) rfl (Nat.le_of_ble_eq_true rfl) ?_
    refine k_ls (ls2 := [.ref 116, .long ((s ^^^ (1 <<< (Int32.toInt64 (f_X12_cellOfParty (x.2 0) (nI j)) &&& 63))) * (31 : Int64)), .retAddr 0, .int (nI j)]) rfl ?_
    refine k_iinc (i := 3) (v := (nI (j + 1))) dX12_signature_42 (rfl : 42 + 3 = 45) rfl (Nat.le_of_ble_eq_true rfl) (nI_1 _) ?_
    refine k_ls (ls2 := [.ref 116, .long ((s ^^^ (1 <<< (Int32.toInt64 (f_X12_cellOfParty (x.2 0) (nI j)) &&& 63))) * (31 : Int64)), .retAddr 0, .int (nI (j + 1))]) rfl ?_
    refine k_goto (tgt := 17) dX12_signature_45 (by decide) ?_
    rw [siL] at hx
    exact ih (j + 1) ((s ^^^ (1 <<< (Int32.toInt64 (f_X12_cellOfParty (x.2 0) (nI j)) &&& 63))) * (31 : Int64)) (by omega) hx
def f_X12_signature (x : kY)  : Int64 := (siL (x.2 0) (Int32.toNatClampNeg ((x.2 0) 6)) 0 ((f_X12_bits (x.2 0) 0) * (31 : Int64)))
def g_X12_signature (x : kY)  : kY := (yS x 0 0)
set_option maxRecDepth 100000 in
set_option maxHeartbeats 4000000 in
theorem m_X12_signature {x : kY} {a9 : kH} {z9 : kE × kE} (hv : kMv (x.2 0)) : kMet kX12_signature false 0 0 [.ref 116] (kTp a9 (kHr x z9)) 130 (kRt (some (.long (f_X12_signature x ))) (kTp a9 (kHr (g_X12_signature x ) z9)) 130) := by
  refine kMet.in (by decide) rfl rfl _ rfl ?_
  refine k_aload_n (i := 0) dX12_signature_0 (rfl : 0 + 1 = 1) rfl rfl ?_
  refine k_iconst (v := 0) dX12_signature_1 (rfl : 1 + 1 = 2) (by decide) ?_
  refine k_put 12 0 fp_X12_50 dX12_signature_2 (rfl : 2 + 3 = 5) (Nat.le_of_ble_eq_true rfl) rfl (Nat.le_of_ble_eq_true rfl) rfl rfl ?_
  refine kf_Y0 (v := 0) rfl ?_
  refine k_aload_n (i := 0) dX12_signature_5 (rfl : 5 + 1 = 6) rfl rfl ?_
  refine k_iconst (v := 0) dX12_signature_6 (rfl : 6 + 1 = 7) (by decide) ?_
  refine k_callVd1 cv_X12_113 ⟨Nat.le_of_ble_eq_true rfl, Nat.le_of_ble_eq_true rfl⟩ (m_X12_bits) dX12_signature_7 (rfl : 7 + 3 = 10) (Nat.le_of_ble_eq_true rfl) rfl rfl rfl ⟨Nat.le_of_ble_eq_true rfl, Nat.le_of_ble_eq_true rfl⟩ ?_
  refine k_ldc2 dX12_signature_10 (rfl : 10 + 3 = 13) kc_X12_226 ?_
  refine k_lmul dX12_signature_13 (rfl : 13 + 1 = 14) ?_
  refine k_lstore_n (i := 1) dX12_signature_14 (rfl : 14 + 1 = 15) rfl (Nat.le_of_ble_eq_true rfl) ?_
  refine k_ls (ls2 := [.ref 116, .long ((f_X12_bits (x.2 0) 0) * (31 : Int64)), .retAddr 0, .retAddr 0]) rfl ?_
  refine k_iconst (v := 0) dX12_signature_15 (rfl : 15 + 1 = 16) (by decide) ?_
  refine k_istore_n (i := 3) dX12_signature_16 (rfl : 16 + 1 = 17) rfl (Nat.le_of_ble_eq_true rfl) ?_
  refine k_ls (ls2 := [.ref 116, .long ((f_X12_bits (x.2 0) 0) * (31 : Int64)), .retAddr 0, .int 0]) rfl ?_
  refine lsiL (x := (yS x 0 0)) hv (Int32.toNatClampNeg ((x.2 0) 6)) 0 ((f_X12_bits (x.2 0) 0) * (31 : Int64)) (Nat.zero_add _) (fun z3 => ?_)
  generalize hw17 : (siL (x.2 0) (Int32.toNatClampNeg ((x.2 0) 6)) 0 ((f_X12_bits (x.2 0) 0) * (31 : Int64))) = w17
  refine k_lload_n (i := 1) dX12_signature_48 (rfl : 48 + 1 = 49) rfl rfl ?_
  refine k_lret rfl dX12_signature_49 (Nat.le_of_ble_eq_true rfl) (Nat.le_of_ble_eq_true rfl) ?_
  subst hw17
  exact kRt_of rfl rfl
/-- the line has at most m signs -/
def kLn2 (x : kY) (m : Nat) : Prop := ∃ n, n ≤ m ∧ x.1 12 = nI n
theorem ln2_in {x : kY} {m : Nat} (h : kLn2 x m) (hm : m < 40) : vp_in (x.1 12) 40 := by
  obtain ⟨n, hn, e⟩ := h
  rw [e]
  exact vp_in_nI (by omega) (by omega)
def g_X12_writes (x : kY) (a1 : Int32) : kY := (yS (yR x 7 (upd (x.2 7) (Int32.toNatClampNeg (x.1 12)) a1)) 12 ((x.1 12) + 1))
set_option maxRecDepth 100000 in
set_option maxHeartbeats 4000000 in
theorem m_X12_writes {x : kY} {a9 : kH} {z9 : kE × kE} {a1 : Int32} {m : Nat} (hl : kLn2 x m) (hm : m < 40) : kMet kX12_writes false 0 0 [.ref 116, .int a1] (kTp a9 (kHr x z9)) 130 (kRt (none) (kTp a9 (kHr (g_X12_writes x a1) z9)) 130) := by
  refine kMet.in (by decide) rfl rfl _ rfl ?_
  refine k_aload_n (i := 0) dX12_writes_0 (rfl : 0 + 1 = 1) rfl rfl ?_
  refine k_get 12 16 fg_X12_38 dX12_writes_1 (rfl : 1 + 3 = 4) (Nat.le_of_ble_eq_true rfl) rfl rfl ?_
  refine k_aload_n (i := 0) dX12_writes_4 (rfl : 4 + 1 = 5) rfl rfl ?_
  refine k_get 12 23 fg_X12_268 dX12_writes_5 (rfl : 5 + 3 = 8) (Nat.le_of_ble_eq_true rfl) rfl rfl ?_
  refine k_iload_n (i := 1) dX12_writes_8 (rfl : 8 + 1 = 9) rfl rfl ?_
  refine k_iast dX12_writes_9 (rfl : 9 + 1 = 10) (Nat.le_of_ble_eq_true rfl) rfl (ln2_in hl hm) ?_
  refine kf_Z7 (f := (upd (x.2 7) (Int32.toNatClampNeg (x.1 12)) a1)) rfl ?_
  refine k_aload_n (i := 0) dX12_writes_10 (rfl : 10 + 1 = 11) rfl rfl ?_
  refine k_dup dX12_writes_11 (rfl : 11 + 1 = 12) rfl ?_
  refine k_get 12 23 fg_X12_268 dX12_writes_12 (rfl : 12 + 3 = 15) (Nat.le_of_ble_eq_true rfl) rfl rfl ?_
  refine k_iconst (v := 1) dX12_writes_15 (rfl : 15 + 1 = 16) (by decide) ?_
  refine k_iadd dX12_writes_16 (rfl : 16 + 1 = 17) ?_
  refine k_put 12 23 fp_X12_268 dX12_writes_17 (rfl : 17 + 3 = 20) (Nat.le_of_ble_eq_true rfl) rfl (Nat.le_of_ble_eq_true rfl) rfl rfl ?_
  refine kf_Y12 (v := ((x.1 12) + 1)) rfl ?_
  refine k_vret rfl dX12_writes_20 (Nat.le_of_ble_eq_true rfl) (Nat.le_of_ble_eq_true rfl) ?_
  exact kRt_of rfl rfl
theorem wr_v {x : kY} {c : Int32} : (g_X12_writes x c).2 0 = x.2 0 := rfl
theorem wr_l {x : kY} {c : Int32} {n : Nat} (h : x.1 12 = nI n) : (g_X12_writes x c).1 12 = nI (n + 1) := by
  show upd x.1 12 (x.1 12 + 1) 12 = _
  rw [pk_us, h, nI_1]
theorem wr_2 {x : kY} {c : Int32} {m : Nat} (h : kLn2 x m) : kLn2 (g_X12_writes x c) (m + 1) := by
  obtain ⟨n, hn, e⟩ := h
  exact ⟨n + 1, by omega, wr_l e⟩
theorem de_0 {a : Int32} (h : ¬ f_X12_isIn a 0 7 = 0) : Int32.toNatClampNeg a < 8 ∧ a = nI (Int32.toNatClampNeg a) ∧ 8 * a = nI (8 * Int32.toNatClampNeg a) := by
  obtain ⟨n, hn, rfl⟩ := in_t (n := 7) (by decide) h
  have h2 : ∀ n, n < 8 → 8 * nI n = nI (8 * n) := by decide
  rw [nI_clamp (by omega)]
  exact ⟨by omega, rfl, h2 n (by omega)⟩
theorem de_t {a : Int32} {y j : Nat} (ea : a = nI y) (hj : j = 8) (hy : y < 8) : 8 * a + 8 ≤ nI (8 * y + j) := by
  subst ea
  subst hj
  have h2 : ∀ y, y < 8 → 8 * nI y + 8 ≤ nI (8 * y + 8) := by decide
  exact h2 y hy
theorem de_f {a : Int32} {y j : Nat} (ea : a = nI y) (hj : j < 8) (hy : y < 8) : ¬ 8 * a + 8 ≤ nI (8 * y + j) := by
  subst ea
  have h2 : ∀ y, y < 8 → ∀ j, j < 8 → ¬ 8 * nI y + 8 ≤ nI (8 * y + j) := by decide
  exact h2 y hy j hj
def deL (y : Nat) : Nat → kY → Nat → kY
  | 0, x, j => x
  | k + 1, x, j => if (f_X12_isTree (x.2 0) (nI (8 * y + j))) = 0 then (if ((x.2 0) 3) = (nI (8 * y + j)) then (deL y k (g_X12_writes x 66) (j + 1)) else (if (sdL (x.2 0) (nI (8 * y + j)) (Int32.toNatClampNeg ((x.2 0) 6)) 0) < 0 then (deL y k (g_X12_writes x 46) (j + 1)) else (deL y k (g_X12_writes x (48 + (sdL (x.2 0) (nI (8 * y + j)) (Int32.toNatClampNeg ((x.2 0) 6)) 0))) (j + 1)))) else (deL y k (g_X12_writes x 84) (j + 1))
set_option maxRecDepth 100000 in
set_option maxHeartbeats 4000000 in
theorem ldeL {a9 : kH} {z9 : kE × kE} {Q : kQ} {y : Nat} {a : Int32}  (hy : y < 8) (ea : a = nI y) : ∀ (k : Nat) (x : kY) (j : Nat), j + k = 8 → kMv (x.2 0) → x.1 12 = nI j → (∀ (z2 : Value), kEv kX12_describeRow (kRm kX12_describeRow 0 0) (kFm false 0 0 (Q)) false 108 [.ref 116, .int a, z2] [] (kTp a9 (kHr (deL y k x j) z9)) 130 0 0) → kEv kX12_describeRow (kRm kX12_describeRow 0 0) (kFm false 0 0 (Q)) false 38 [.ref 116, .int a, .int (nI (8 * y + j))] [] (kTp a9 (kHr x z9)) 130 0 0 := by
  intro k
  induction k with
  | zero =>
    intro x j hj hv hl hx
    refine k_iload_n (i := 2) dX12_describeRow_38 (rfl : 38 + 1 = 39) rfl rfl ?_
    refine k_bipush (v := 8) dX12_describeRow_39 (rfl : 39 + 2 = 41) (by decide) ?_
    refine k_iload_n (i := 1) dX12_describeRow_41 (rfl : 41 + 1 = 42) rfl rfl ?_
    refine k_imul dX12_describeRow_42 (rfl : 42 + 1 = 43) ?_
    refine k_bipush (v := 8) dX12_describeRow_43 (rfl : 43 + 2 = 45) (by decide) ?_
    refine k_iadd dX12_describeRow_45 (rfl : 45 + 1 = 46) ?_
    refine k_icmp_ge (tgt := 108) dX12_describeRow_46 (rfl : 46 + 3 = 49) (by decide) (fun b46 => ?_) (fun b46 => by exact absurd (de_t ea (by omega) hy) b46)
    rw [deL] at hx
    exact hx _
  | succ k ih =>
    intro x j hj hv hl hx
    refine k_iload_n (i := 2) dX12_describeRow_38 (rfl : 38 + 1 = 39) rfl rfl ?_
    refine k_bipush (v := 8) dX12_describeRow_39 (rfl : 39 + 2 = 41) (by decide) ?_
    refine k_iload_n (i := 1) dX12_describeRow_41 (rfl : 41 + 1 = 42) rfl rfl ?_
    refine k_imul dX12_describeRow_42 (rfl : 42 + 1 = 43) ?_
    refine k_bipush (v := 8) dX12_describeRow_43 (rfl : 43 + 2 = 45) (by decide) ?_
    refine k_iadd dX12_describeRow_45 (rfl : 45 + 1 = 46) ?_
    refine k_icmp_ge (tgt := 108) dX12_describeRow_46 (rfl : 46 + 3 = 49) (by decide) (fun b46 => by exact absurd b46 (de_f ea (by omega) hy)) (fun b46 => ?_)
    refine k_aload_n (i := 0) dX12_describeRow_49 (rfl : 49 + 1 = 50) rfl rfl ?_
    refine k_aload_n (i := 0) dX12_describeRow_50 (rfl : 50 + 1 = 51) rfl rfl ?_
    refine k_iload_n (i := 2) dX12_describeRow_51 (rfl : 51 + 1 = 52) rfl rfl ?_
    refine k_callVd1 cv_X12_106 ⟨Nat.le_of_ble_eq_true rfl, Nat.le_of_ble_eq_true rfl⟩ (m_X12_isTree ⟨8 * y + j, by omega, rfl⟩) dX12_describeRow_52 (rfl : 52 + 3 = 55) (Nat.le_of_ble_eq_true rfl) rfl rfl rfl ⟨Nat.le_of_ble_eq_true rfl, Nat.le_of_ble_eq_true rfl⟩ ?_
    refine k_if_eq (tgt := 63) dX12_describeRow_55 (rfl : 55 + 3 = 58) (by decide) (fun b55 => ?_) (fun b55 => ?_)
    · refine k_aload_n (i := 0) dX12_describeRow_63 (rfl : 63 + 1 = 64) rfl rfl ?_
      refine k_get 12 7 fg_X12_16 dX12_describeRow_64 (rfl : 64 + 3 = 67) (Nat.le_of_ble_eq_true rfl) rfl rfl ?_
      refine k_iconst (v := 3) dX12_describeRow_67 (rfl : 67 + 1 = 68) (by decide) ?_
      refine k_ialdc (c := 3) (by decide) dX12_describeRow_68 (rfl : 68 + 1 = 69) (Nat.le_of_ble_eq_true rfl) rfl (vp_in_iff.mpr (by decide)) ?_
      refine k_iload_n (i := 2) dX12_describeRow_69 (rfl : 69 + 1 = 70) rfl rfl ?_
      refine k_icmp_ne (tgt := 78) dX12_describeRow_70 (rfl : 70 + 3 = 73) (by decide) (fun b70 => ?_) (fun b70 => ?_)
      · refine k_aload_n (i := 0) dX12_describeRow_78 (rfl : 78 + 1 = 79) rfl rfl ?_
        refine k_iload_n (i := 2) dX12_describeRow_79 (rfl : 79 + 1 = 80) rfl rfl ?_
        refine k_callVd1 cv_X12_85 ⟨Nat.le_of_ble_eq_true rfl, Nat.le_of_ble_eq_true rfl⟩ (m_X12_standing hv) dX12_describeRow_80 (rfl : 80 + 3 = 83) (Nat.le_of_ble_eq_true rfl) rfl rfl rfl ⟨Nat.le_of_ble_eq_true rfl, Nat.le_of_ble_eq_true rfl⟩ ?_
        refine k_if_lt (tgt := 97) dX12_describeRow_83 (rfl : 83 + 3 = 86) (by decide) (fun b83 => ?_) (fun b83 => ?_)
        · refine k_bipush (v := 46) dX12_describeRow_97 (rfl : 97 + 2 = 99) (by decide) ?_
          refine k_callVv1 cv_X12_271 ⟨Nat.le_of_ble_eq_true rfl, Nat.le_of_ble_eq_true rfl⟩ (m_X12_writes (m := j) ⟨j, Nat.le_refl _, hl⟩ (by omega)) dX12_describeRow_99 (rfl : 99 + 3 = 102) (Nat.le_of_ble_eq_true rfl) rfl rfl rfl ⟨Nat.le_of_ble_eq_true rfl, Nat.le_of_ble_eq_true rfl⟩ ?_
          refine k_iinc (i := 2) (v := (nI (8 * y + (j + 1)))) dX12_describeRow_102 (rfl : 102 + 3 = 105) rfl (Nat.le_of_ble_eq_true rfl) (nI_1 _) ?_
          refine k_ls (ls2 := [.ref 116, .int a, .int (nI (8 * y + (j + 1)))]) rfl ?_
          refine k_goto (tgt := 38) dX12_describeRow_105 (by decide) ?_
          rw [deL, if_pos (show (f_X12_isTree (x.2 0) (nI (8 * y + j))) = 0 from b55), if_neg (show ¬ (((x.2 0) 3) = (nI (8 * y + j))) from b70), if_pos (show (sdL (x.2 0) (nI (8 * y + j)) (Int32.toNatClampNeg ((x.2 0) 6)) 0) < 0 from b83)] at hx
          exact ih (g_X12_writes x 46) (j + 1) (by omega) hv (wr_l hl) hx
        · refine k_bipush (v := 48) dX12_describeRow_86 (rfl : 86 + 2 = 88) (by decide) ?_
          refine k_aload_n (i := 0) dX12_describeRow_88 (rfl : 88 + 1 = 89) rfl rfl ?_
          refine k_iload_n (i := 2) dX12_describeRow_89 (rfl : 89 + 1 = 90) rfl rfl ?_
          refine k_callVd1 cv_X12_85 ⟨Nat.le_of_ble_eq_true rfl, Nat.le_of_ble_eq_true rfl⟩ (m_X12_standing hv) dX12_describeRow_90 (rfl : 90 + 3 = 93) (Nat.le_of_ble_eq_true rfl) rfl rfl rfl ⟨Nat.le_of_ble_eq_true rfl, Nat.le_of_ble_eq_true rfl⟩ ?_
          refine k_iadd dX12_describeRow_93 (rfl : 93 + 1 = 94) ?_
          refine k_goto (tgt := 99) dX12_describeRow_94 (by decide) ?_
          refine k_callVv1 cv_X12_271 ⟨Nat.le_of_ble_eq_true rfl, Nat.le_of_ble_eq_true rfl⟩ (m_X12_writes (m := j) ⟨j, Nat.le_refl _, hl⟩ (by omega)) dX12_describeRow_99 (rfl : 99 + 3 = 102) (Nat.le_of_ble_eq_true rfl) rfl rfl rfl ⟨Nat.le_of_ble_eq_true rfl, Nat.le_of_ble_eq_true rfl⟩ ?_
          refine k_iinc (i := 2) (v := (nI (8 * y + (j + 1)))) dX12_describeRow_102 (rfl : 102 + 3 = 105) rfl (Nat.le_of_ble_eq_true rfl) (nI_1 _) ?_
          refine k_ls (ls2 := [.ref 116, .int a, .int (nI (8 * y + (j + 1)))]) rfl ?_
          refine k_goto (tgt := 38) dX12_describeRow_105 (by decide) ?_
          rw [deL, if_pos (show (f_X12_isTree (x.2 0) (nI (8 * y + j))) = 0 from b55), if_neg (show ¬ (((x.2 0) 3) = (nI (8 * y + j))) from b70), if_neg (show ¬ ((sdL (x.2 0) (nI (8 * y + j)) (Int32.toNatClampNeg ((x.2 0) 6)) 0) < 0) from b83)] at hx
          exact ih (g_X12_writes x (48 + (sdL (x.2 0) (nI (8 * y + j)) (Int32.toNatClampNeg ((x.2 0) 6)) 0))) (j + 1) (by omega) hv (wr_l hl) hx
      · refine k_bipush (v := 66) dX12_describeRow_73 (rfl : 73 + 2 = 75) (by decide) ?_
        refine k_goto (tgt := 99) dX12_describeRow_75 (by decide) ?_
        refine k_callVv1 cv_X12_271 ⟨Nat.le_of_ble_eq_true rfl, Nat.le_of_ble_eq_true rfl⟩ (m_X12_writes (m := j) ⟨j, Nat.le_refl _, hl⟩ (by omega)) dX12_describeRow_99 (rfl : 99 + 3 = 102) (Nat.le_of_ble_eq_true rfl) rfl rfl rfl ⟨Nat.le_of_ble_eq_true rfl, Nat.le_of_ble_eq_true rfl⟩ ?_
        refine k_iinc (i := 2) (v := (nI (8 * y + (j + 1)))) dX12_describeRow_102 (rfl : 102 + 3 = 105) rfl (Nat.le_of_ble_eq_true rfl) (nI_1 _) ?_
        refine k_ls (ls2 := [.ref 116, .int a, .int (nI (8 * y + (j + 1)))]) rfl ?_
        refine k_goto (tgt := 38) dX12_describeRow_105 (by decide) ?_
        rw [deL, if_pos (show (f_X12_isTree (x.2 0) (nI (8 * y + j))) = 0 from b55), if_pos (show ((x.2 0) 3) = (nI (8 * y + j)) from b70)] at hx
        exact ih (g_X12_writes x 66) (j + 1) (by omega) hv (wr_l hl) hx
    · refine k_bipush (v := 84) dX12_describeRow_58 (rfl : 58 + 2 = 60) (by decide) ?_
      refine k_goto (tgt := 99) dX12_describeRow_60 (by decide) ?_
      refine k_callVv1 cv_X12_271 ⟨Nat.le_of_ble_eq_true rfl, Nat.le_of_ble_eq_true rfl⟩ (m_X12_writes (m := j) ⟨j, Nat.le_refl _, hl⟩ (by omega)) dX12_describeRow_99 (rfl : 99 + 3 = 102) (Nat.le_of_ble_eq_true rfl) rfl rfl rfl ⟨Nat.le_of_ble_eq_true rfl, Nat.le_of_ble_eq_true rfl⟩ ?_
      refine k_iinc (i := 2) (v := (nI (8 * y + (j + 1)))) dX12_describeRow_102 (rfl : 102 + 3 = 105) rfl (Nat.le_of_ble_eq_true rfl) (nI_1 _) ?_
      refine k_ls (ls2 := [.ref 116, .int a, .int (nI (8 * y + (j + 1)))]) rfl ?_
      refine k_goto (tgt := 38) dX12_describeRow_105 (by decide) ?_
      rw [deL, if_neg (show ¬ ((f_X12_isTree (x.2 0) (nI (8 * y + j))) = 0) from b55)] at hx
      exact ih (g_X12_writes x 84) (j + 1) (by omega) hv (wr_l hl) hx
def f_X12_describeRow (x : kY) (a1 : Int32) : Int32 := if (f_X12_isIn a1 0 7) = 0 then 0 else ((deL (Int32.toNatClampNeg a1) 8 (yS (yS x 0 0) 12 0) 0).1 12)
def g_X12_describeRow (x : kY) (a1 : Int32) : kY := if (f_X12_isIn a1 0 7) = 0 then (yS x 0 1) else (deL (Int32.toNatClampNeg a1) 8 (yS (yS x 0 0) 12 0) 0)
set_option maxRecDepth 100000 in
set_option maxHeartbeats 4000000 in
theorem m_X12_describeRow {x : kY} {a9 : kH} {z9 : kE × kE} {a1 : Int32} (hv : kMv (x.2 0)) : kMet kX12_describeRow false 0 0 [.ref 116, .int a1] (kTp a9 (kHr x z9)) 130 (kRt (some (.int (f_X12_describeRow x a1))) (kTp a9 (kHr (g_X12_describeRow x a1) z9)) 130) := by
  refine kMet.in (by decide) rfl rfl _ rfl ?_
  refine k_aload_n (i := 0) dX12_describeRow_0 (rfl : 0 + 1 = 1) rfl rfl ?_
  refine k_iload_n (i := 1) dX12_describeRow_1 (rfl : 1 + 1 = 2) rfl rfl ?_
  refine k_iconst (v := 0) dX12_describeRow_2 (rfl : 2 + 1 = 3) (by decide) ?_
  refine k_bipush (v := 7) dX12_describeRow_3 (rfl : 3 + 2 = 5) (by decide) ?_
  refine k_callSd3 cv_X12_70 ⟨Nat.le_of_ble_eq_true rfl, Nat.le_of_ble_eq_true rfl⟩ (m_X12_isIn) dX12_describeRow_5 (rfl : 5 + 3 = 8) rfl ⟨Nat.le_of_ble_eq_true rfl, Nat.le_of_ble_eq_true rfl⟩ ?_
  refine k_if_eq (tgt := 15) dX12_describeRow_8 (rfl : 8 + 3 = 11) (by decide) (fun b8 => ?_) (fun b8 => ?_)
  · refine k_iconst (v := 1) dX12_describeRow_15 (rfl : 15 + 1 = 16) (by decide) ?_
    refine k_put 12 0 fp_X12_50 dX12_describeRow_16 (rfl : 16 + 3 = 19) (Nat.le_of_ble_eq_true rfl) rfl (Nat.le_of_ble_eq_true rfl) rfl rfl ?_
    refine kf_Y0 (v := 1) rfl ?_
    refine k_aload_n (i := 0) dX12_describeRow_19 (rfl : 19 + 1 = 20) rfl rfl ?_
    refine k_get 12 0 fg_X12_50 dX12_describeRow_20 (rfl : 20 + 3 = 23) (Nat.le_of_ble_eq_true rfl) rfl rfl ?_
    refine k_if_eq (tgt := 28) dX12_describeRow_23 (rfl : 23 + 3 = 26) (by decide) (fun b23 => by exact absurd b23 (by first | decide | (show ¬ (1 : Int32) = 0; decide))) (fun b23 => ?_)
    refine k_iconst (v := 0) dX12_describeRow_26 (rfl : 26 + 1 = 27) (by decide) ?_
    refine k_iret rfl rfl dX12_describeRow_27 (Nat.le_of_ble_eq_true rfl) (Nat.le_of_ble_eq_true rfl) ?_
    exact kRt_of (congrArg (fun z => some (Value.int z)) (Eq.symm (if_pos (show (f_X12_isIn a1 0 7) = 0 from b8)))) (congrArg (fun z => kTp a9 (kHr z z9)) (Eq.symm (if_pos (show (f_X12_isIn a1 0 7) = 0 from b8))))
  · refine k_iconst (v := 0) dX12_describeRow_11 (rfl : 11 + 1 = 12) (by decide) ?_
    refine k_goto (tgt := 16) dX12_describeRow_12 (by decide) ?_
    refine k_put 12 0 fp_X12_50 dX12_describeRow_16 (rfl : 16 + 3 = 19) (Nat.le_of_ble_eq_true rfl) rfl (Nat.le_of_ble_eq_true rfl) rfl rfl ?_
    refine kf_Y0 (v := 0) rfl ?_
    refine k_aload_n (i := 0) dX12_describeRow_19 (rfl : 19 + 1 = 20) rfl rfl ?_
    refine k_get 12 0 fg_X12_50 dX12_describeRow_20 (rfl : 20 + 3 = 23) (Nat.le_of_ble_eq_true rfl) rfl rfl ?_
    refine k_if_eq (tgt := 28) dX12_describeRow_23 (rfl : 23 + 3 = 26) (by decide) (fun b23 => ?_) (fun b23 => by exact absurd (by first | decide | (show (0 : Int32) = 0; decide)) b23)
    refine k_aload_n (i := 0) dX12_describeRow_28 (rfl : 28 + 1 = 29) rfl rfl ?_
    refine k_iconst (v := 0) dX12_describeRow_29 (rfl : 29 + 1 = 30) (by decide) ?_
    refine k_put 12 23 fp_X12_268 dX12_describeRow_30 (rfl : 30 + 3 = 33) (Nat.le_of_ble_eq_true rfl) rfl (Nat.le_of_ble_eq_true rfl) rfl rfl ?_
    refine kf_Y12 (v := 0) rfl ?_
    refine k_bipush (v := 8) dX12_describeRow_33 (rfl : 33 + 2 = 35) (by decide) ?_
    refine k_iload_n (i := 1) dX12_describeRow_35 (rfl : 35 + 1 = 36) rfl rfl ?_
    refine k_imul dX12_describeRow_36 (rfl : 36 + 1 = 37) ?_
    refine k_istore_n (i := 2) dX12_describeRow_37 (rfl : 37 + 1 = 38) rfl (Nat.le_of_ble_eq_true rfl) ?_
    refine k_ls (ls2 := [.ref 116, .int a1, .int (8 * a1)]) rfl ?_
    refine k_ls (ls2 := [.ref 116, .int a1, .int (nI (8 * (Int32.toNatClampNeg a1) + 0))]) (by rw [Nat.add_zero, ← (de_0 b8).2.2]) ?_
    refine ldeL (y := (Int32.toNatClampNeg a1)) (de_0 b8).1 (de_0 b8).2.1 8 (yS (yS x 0 0) 12 0) 0 (by omega) hv rfl (fun z2 => ?_)
    generalize hw38 : (deL (Int32.toNatClampNeg a1) 8 (yS (yS x 0 0) 12 0) 0) = w38
    refine k_aload_n (i := 0) dX12_describeRow_108 (rfl : 108 + 1 = 109) rfl rfl ?_
    refine k_get 12 23 fg_X12_268 dX12_describeRow_109 (rfl : 109 + 3 = 112) (Nat.le_of_ble_eq_true rfl) rfl rfl ?_
    refine k_iret rfl rfl dX12_describeRow_112 (Nat.le_of_ble_eq_true rfl) (Nat.le_of_ble_eq_true rfl) ?_
    subst hw38
    exact kRt_of (congrArg (fun z => some (Value.int z)) (Eq.symm (if_neg (show ¬ ((f_X12_isIn a1 0 7) = 0) from b8)))) (congrArg (fun z => kTp a9 (kHr z z9)) (Eq.symm (if_neg (show ¬ ((f_X12_isIn a1 0 7) = 0) from b8))))
def pT2 (j : Nat) : Int32 := nI (10 ^ j)
def wnD (m : Nat) : Nat → Nat → Nat
  | 0, j => j
  | k + 1, j => if m / 10 ^ j < 10 then j else wnD m k (j + 1)
def pD (J j : Nat) : Int32 := if j ≤ J then nI (10 ^ (J - j)) else 0
theorem pT2_s {j : Nat} (h : j < 9) : pT2 j * 10 = pT2 (j + 1) := by
  have h2 : ∀ j, j < 9 → pT2 j * 10 = pT2 (j + 1) := by decide
  exact h2 j h
theorem pT2_ne {j : Nat} (h : j < 10) : pT2 j ≠ 0 := by
  have h2 : ∀ j, j < 10 → pT2 j ≠ 0 := by decide
  exact h2 j h
theorem p10 {j : Nat} (h : j < 10) : 10 ^ j < 2 ^ 31 ∧ 0 < 10 ^ j := by
  have h2 : ∀ j, j < 10 → 10 ^ j < 2 ^ 31 ∧ 0 < 10 ^ j := by decide
  exact h2 j h
theorem pT2_d {m j : Nat} (hm : m < 2 ^ 31) (h : j < 10) : nI m / pT2 j = nI (m / 10 ^ j) := by
  unfold pT2
  have := p10 h
  exact pk_div hm this.2 this.1
theorem pD_le {J j : Nat} (hJ : J < 10) (h : j = J + 1) : pD J j ≤ 0 := by
  unfold pD
  rw [if_neg (by omega)]
  decide
theorem pD_nle {J j : Nat} (hJ : J < 10) (h : j < J + 1) : ¬ pD J j ≤ 0 := by
  unfold pD
  rw [if_pos (by omega)]
  have h2 := p10 (j := J - j) (by omega)
  exact nI_nle h2.2 h2.1
theorem pD_ne {J j : Nat} (hJ : J < 10) (h : j < J + 1) : pD J j ≠ 0 := by
  intro h2
  refine pD_nle hJ h ?_
  rw [h2]
  decide
theorem pD_s {J j : Nat} (hJ : J < 10) (h : j < J + 1) : pD J j / 10 = pD J (j + 1) := by
  have h2 : ∀ J, J < 10 → ∀ j, j < J + 1 → pD J j / 10 = pD J (j + 1) := by decide
  exact h2 J hJ j h
theorem wnD_le {m k : Nat} : ∀ {j : Nat}, j + k = 9 → wnD m k j ≤ 9 := by
  induction k with
  | zero => intro j h; show j ≤ 9; omega
  | succ k ih =>
    intro j h
    rw [wnD]
    split
    · omega
    · exact ih (by omega)
theorem wn_lt {m j : Nat} (hm : m < 10 ^ 9) (hj : j = 9) : nI m / pT2 j < 10 := by
  subst hj
  rw [pT2_d (by omega) (by omega), show m / 10 ^ 9 = 0 from Nat.div_eq_of_lt hm]
  decide
def wnL (x : kY) (a : Int32) : Nat → Nat → Int32
  | 0, j => (pT2 j)
  | k + 1, j => if (a / (pT2 j)) < 10 then (pT2 j) else (wnL x a k (j + 1))
set_option maxRecDepth 100000 in
set_option maxHeartbeats 4000000 in
theorem lwnL {x : kY} {a9 : kH} {z9 : kE × kE} {Q : kQ} {a : Int32} {m : Nat}  (hm : m < 10 ^ 9) (ea : a = nI m) : ∀ (k : Nat) (j : Nat), j + k = 9 → (kEv kX12_writesNumber (kRm kX12_writesNumber 0 0) (kFm false 0 0 (Q)) false 18 [.ref 116, .int a, .int (wnL x a k j)] [] (kTp a9 (kHr x z9)) 130 0 0) → kEv kX12_writesNumber (kRm kX12_writesNumber 0 0) (kFm false 0 0 (Q)) false 2 [.ref 116, .int a, .int (pT2 j)] [] (kTp a9 (kHr x z9)) 130 0 0 := by
  intro k
  induction k with
  | zero =>
    intro j hj hx
    refine k_iload_n (i := 1) dX12_writesNumber_2 (rfl : 2 + 1 = 3) rfl rfl ?_
    refine k_iload_n (i := 2) dX12_writesNumber_3 (rfl : 3 + 1 = 4) rfl rfl ?_
    refine k_idiv dX12_writesNumber_4 (rfl : 4 + 1 = 5) (pT2_ne (by omega)) ?_
    refine k_bipush (v := 10) dX12_writesNumber_5 (rfl : 5 + 2 = 7) (by decide) ?_
    refine k_icmp_lt (tgt := 18) dX12_writesNumber_7 (rfl : 7 + 3 = 10) (by decide) (fun b7 => ?_) (fun b7 => by exact absurd (by rw [ea]; exact wn_lt hm (by omega)) b7)
    rw [wnL] at hx
    exact hx
  | succ k ih =>
    intro j hj hx
    refine k_iload_n (i := 1) dX12_writesNumber_2 (rfl : 2 + 1 = 3) rfl rfl ?_
    refine k_iload_n (i := 2) dX12_writesNumber_3 (rfl : 3 + 1 = 4) rfl rfl ?_
    refine k_idiv dX12_writesNumber_4 (rfl : 4 + 1 = 5) (pT2_ne (by omega)) ?_
    refine k_bipush (v := 10) dX12_writesNumber_5 (rfl : 5 + 2 = 7) (by decide) ?_
    refine k_icmp_lt (tgt := 18) dX12_writesNumber_7 (rfl : 7 + 3 = 10) (by decide) (fun b7 => ?_) (fun b7 => ?_)
    · rw [wnL, if_pos (show (a / (pT2 j)) < 10 from b7)] at hx
      exact hx
    · refine k_iload_n (i := 2) dX12_writesNumber_10 (rfl : 10 + 1 = 11) rfl rfl ?_
      refine k_bipush (v := 10) dX12_writesNumber_11 (rfl : 11 + 2 = 13) (by decide) ?_
      refine k_imul dX12_writesNumber_13 (rfl : 13 + 1 = 14) ?_
      refine k_istore_n (i := 2) dX12_writesNumber_14 (rfl : 14 + 1 = 15) rfl (Nat.le_of_ble_eq_true rfl) ?_
      refine k_ls (ls2 := [.ref 116, .int a, .int ((pT2 j) * 10)]) rfl ?_
      refine k_ls (ls2 := [.ref 116, .int a, .int (pT2 (j + 1))]) (by rw [show ((pT2 j) * 10) = (pT2 (j + 1)) from (pT2_s (by omega))]) ?_
      refine k_goto (tgt := 2) dX12_writesNumber_15 (by decide) ?_
      rw [wnL, if_neg (show ¬ ((a / (pT2 j)) < 10) from b7)] at hx
      exact ih (j + 1) (by omega) hx
def wnW (a : Int32) (J : Nat) : Nat → kY → Nat → kY
  | 0, x, j => x
  | k + 1, x, j => (wnW a J k (g_X12_writes x (48 + ((a / (pD J j)) - (a / (pD J j)) / 10 * 10))) (j + 1))
set_option maxRecDepth 100000 in
set_option maxHeartbeats 4000000 in
theorem lwnW {a9 : kH} {z9 : kE × kE} {Q : kQ} {a : Int32} {J : Nat} {M : Nat}  (hJ : J < 10) (hM : M < 30) : ∀ (k : Nat) (x : kY) (j : Nat), j + k = (J + 1) → kLn2 x (M + j) → (∀ (z2 : Value), kEv kX12_writesNumber (kRm kX12_writesNumber 0 0) (kFm false 0 0 (Q)) false 43 [.ref 116, .int a, z2] [] (kTp a9 (kHr (wnW a J k x j) z9)) 130 0 0) → kEv kX12_writesNumber (kRm kX12_writesNumber 0 0) (kFm false 0 0 (Q)) false 18 [.ref 116, .int a, .int (pD J j)] [] (kTp a9 (kHr x z9)) 130 0 0 := by
  intro k
  induction k with
  | zero =>
    intro x j hj hl hx
    refine k_iload_n (i := 2) dX12_writesNumber_18 (rfl : 18 + 1 = 19) rfl rfl ?_
    refine k_if_le (tgt := 43) dX12_writesNumber_19 (rfl : 19 + 3 = 22) (by decide) (fun b19 => ?_) (fun b19 => by exact absurd (pD_le hJ (by omega)) b19)
    rw [wnW] at hx
    exact hx _
  | succ k ih =>
    intro x j hj hl hx
    refine k_iload_n (i := 2) dX12_writesNumber_18 (rfl : 18 + 1 = 19) rfl rfl ?_
    refine k_if_le (tgt := 43) dX12_writesNumber_19 (rfl : 19 + 3 = 22) (by decide) (fun b19 => by exact absurd b19 (pD_nle hJ (by omega))) (fun b19 => ?_)
    refine k_aload_n (i := 0) dX12_writesNumber_22 (rfl : 22 + 1 = 23) rfl rfl ?_
    refine k_bipush (v := 48) dX12_writesNumber_23 (rfl : 23 + 2 = 25) (by decide) ?_
    refine k_iload_n (i := 1) dX12_writesNumber_25 (rfl : 25 + 1 = 26) rfl rfl ?_
    refine k_iload_n (i := 2) dX12_writesNumber_26 (rfl : 26 + 1 = 27) rfl rfl ?_
    refine k_idiv dX12_writesNumber_27 (rfl : 27 + 1 = 28) (pD_ne hJ (by omega)) ?_
    refine k_bipush (v := 10) dX12_writesNumber_28 (rfl : 28 + 2 = 30) (by decide) ?_
    refine k_irem dX12_writesNumber_30 (rfl : 30 + 1 = 31) (by decide) ?_
    refine k_iadd dX12_writesNumber_31 (rfl : 31 + 1 = 32) ?_
    refine k_callVv1 cv_X12_271 ⟨Nat.le_of_ble_eq_true rfl, Nat.le_of_ble_eq_true rfl⟩ (m_X12_writes hl (by omega)) dX12_writesNumber_32 (rfl : 32 + 3 = 35) (Nat.le_of_ble_eq_true rfl) rfl rfl rfl ⟨Nat.le_of_ble_eq_true rfl, Nat.le_of_ble_eq_true rfl⟩ ?_
    refine k_iload_n (i := 2) dX12_writesNumber_35 (rfl : 35 + 1 = 36) rfl rfl ?_
    refine k_bipush (v := 10) dX12_writesNumber_36 (rfl : 36 + 2 = 38) (by decide) ?_
    refine k_idiv dX12_writesNumber_38 (rfl : 38 + 1 = 39) (by decide) ?_
    refine k_istore_n (i := 2) dX12_writesNumber_39 (rfl : 39 + 1 = 40) rfl (Nat.le_of_ble_eq_true rfl) ?_
    refine k_ls (ls2 := [.ref 116, .int a, .int ((pD J j) / 10)]) rfl ?_
    refine k_ls (ls2 := [.ref 116, .int a, .int (pD J (j + 1))]) (by rw [show ((pD J j) / 10) = (pD J (j + 1)) from (pD_s hJ (by omega))]) ?_
    refine k_goto (tgt := 18) dX12_writesNumber_40 (by decide) ?_
    rw [wnW] at hx
    exact ih (g_X12_writes x (48 + ((a / (pD J j)) - (a / (pD J j)) / 10 * 10))) (j + 1) (by omega) (wr_2 hl) hx
theorem wn_eq {x : kY} {m : Nat} (hm : m < 10 ^ 9) {k : Nat} : ∀ {j : Nat}, j + k = 9 → wnL x (nI m) k j = pT2 (wnD m k j) := by
  induction k with
  | zero => intro j _; rfl
  | succ k ih =>
    intro j hj
    rw [wnL, wnD, pT2_d (by omega) (by omega)]
    have h0 : m / 10 ^ j < 2 ^ 31 := Nat.lt_of_le_of_lt (Nat.div_le_self m _) (by omega)
    by_cases h1 : m / 10 ^ j < 10
    · rw [if_pos (show nI (m / 10 ^ j) < 10 from nI_lt (b := 10) h1 (by decide)), if_pos h1]
    · rw [if_neg (show ¬ nI (m / 10 ^ j) < 10 from nI_nlt (b := 10) (by omega) h0), if_neg h1]
      exact ih (by omega)
theorem wn_s {x : kY} {a : Int32} (h : ∃ m, m < 10 ^ 9 ∧ a = nI m) : Int32.toNatClampNeg a < 10 ^ 9 ∧ a = nI (Int32.toNatClampNeg a) ∧ wnL x a 9 0 = pD (wnD (Int32.toNatClampNeg a) 9 0) 0 := by
  obtain ⟨m, hm, rfl⟩ := h
  rw [nI_clamp (by omega)]
  refine ⟨hm, rfl, ?_⟩
  rw [wn_eq hm (by omega)]
  unfold pD pT2
  rw [if_pos (by omega), Nat.sub_zero]
def g_X12_writesNumber (x : kY) (a1 : Int32) : kY := (wnW a1 (wnD (Int32.toNatClampNeg a1) 9 0) ((wnD (Int32.toNatClampNeg a1) 9 0) + 1) x 0)
set_option maxRecDepth 100000 in
set_option maxHeartbeats 4000000 in
theorem m_X12_writesNumber {x : kY} {a9 : kH} {z9 : kE × kE} {a1 : Int32} {M : Nat} (hn : ∃ m, m < 10 ^ 9 ∧ a1 = nI m) (hM : M < 30) (hl : kLn2 x M) : kMet kX12_writesNumber false 0 0 [.ref 116, .int a1] (kTp a9 (kHr x z9)) 130 (kRt (none) (kTp a9 (kHr (g_X12_writesNumber x a1) z9)) 130) := by
  refine kMet.in (by decide) rfl rfl _ rfl ?_
  refine k_iconst (v := 1) dX12_writesNumber_0 (rfl : 0 + 1 = 1) (by decide) ?_
  refine k_istore_n (i := 2) dX12_writesNumber_1 (rfl : 1 + 1 = 2) rfl (Nat.le_of_ble_eq_true rfl) ?_
  refine k_ls (ls2 := [.ref 116, .int a1, .int 1]) rfl ?_
  refine k_ls (ls2 := [.ref 116, .int a1, .int (pT2 0)]) rfl ?_
  refine lwnL (a := a1) (wn_s (x := x) hn).1 (wn_s (x := x) hn).2.1 9 0 (by omega) (?_)
  generalize hw2 : (wnL x a1 9 0) = w2
  refine k_ls (ls2 := [.ref 116, .int a1, .int (pD (wnD (Int32.toNatClampNeg a1) 9 0) 0)]) (by rw [← hw2, (wn_s (x := x) hn).2.2]) ?_
  refine lwnW (a := a1) (J := (wnD (Int32.toNatClampNeg a1) 9 0)) (by have := wnD_le (m := Int32.toNatClampNeg a1) (k := 9) (j := 0) (by omega); omega) hM ((wnD (Int32.toNatClampNeg a1) 9 0) + 1) x 0 (by omega) hl (fun z2 => ?_)
  generalize hw18 : (wnW a1 (wnD (Int32.toNatClampNeg a1) 9 0) ((wnD (Int32.toNatClampNeg a1) 9 0) + 1) x 0) = w18
  refine k_vret rfl dX12_writesNumber_43 (Nat.le_of_ble_eq_true rfl) (Nat.le_of_ble_eq_true rfl) ?_
  subst hw18
  subst hw2
  exact kRt_of rfl rfl
theorem wnW_l {a : Int32} {J k : Nat} : ∀ {x : kY} {j m : Nat}, kLn2 x m → kLn2 (wnW a J k x j) (m + k) := by
  induction k with
  | zero => intro x j m h; exact h
  | succ k ih =>
    intro x j m h
    rw [wnW, show m + (k + 1) = m + 1 + k by omega]
    exact ih (wr_2 h)
theorem wnW_v {a : Int32} {J k : Nat} : ∀ {x : kY} {j : Nat}, (wnW a J k x j).2 0 = x.2 0 := by
  induction k with
  | zero => intro x j; rfl
  | succ k ih =>
    intro x j
    rw [wnW, ih]
    rfl
theorem wn_2 {x : kY} {a : Int32} {m : Nat} (h : kLn2 x m) : kLn2 (g_X12_writesNumber x a) (m + 10) := by
  have h2 := wnW_l (a := a) (J := wnD (Int32.toNatClampNeg a) 9 0) (k := wnD (Int32.toNatClampNeg a) 9 0 + 1) (x := x) (j := 0) h
  have h3 := wnD_le (m := Int32.toNatClampNeg a) (k := 9) (j := 0) (by omega)
  obtain ⟨n, hn, e⟩ := h2
  exact ⟨n, by omega, e⟩
theorem wn_v {x : kY} {a : Int32} : (g_X12_writesNumber x a).2 0 = x.2 0 := wnW_v
def f_X12_looks (x : kY) (a1 : Int32) : Int32 := if (f_X12_isPlea (x.2 0) a1) = 0 then 0 else 1
def g_X12_looks (x : kY) (a1 : Int32) : kY := if (f_X12_isPlea (x.2 0) a1) = 0 then (yS x 0 1) else (yS x 0 0)
set_option maxRecDepth 100000 in
set_option maxHeartbeats 4000000 in
theorem m_X12_looks {x : kY} {a9 : kH} {z9 : kE × kE} {a1 : Int32} : kMet kX12_looks false 0 0 [.ref 116, .int a1] (kTp a9 (kHr x z9)) 130 (kRt (some (.int (f_X12_looks x a1))) (kTp a9 (kHr (g_X12_looks x a1) z9)) 130) := by
  refine kMet.in (by decide) rfl rfl _ rfl ?_
  refine k_aload_n (i := 0) dX12_looks_0 (rfl : 0 + 1 = 1) rfl rfl ?_
  refine k_aload_n (i := 0) dX12_looks_1 (rfl : 1 + 1 = 2) rfl rfl ?_
  refine k_iload_n (i := 1) dX12_looks_2 (rfl : 2 + 1 = 3) rfl rfl ?_
  refine k_callVd1 cv_X12_191 ⟨Nat.le_of_ble_eq_true rfl, Nat.le_of_ble_eq_true rfl⟩ (m_X12_isPlea) dX12_looks_3 (rfl : 3 + 3 = 6) (Nat.le_of_ble_eq_true rfl) rfl rfl rfl ⟨Nat.le_of_ble_eq_true rfl, Nat.le_of_ble_eq_true rfl⟩ ?_
  refine k_if_eq (tgt := 13) dX12_looks_6 (rfl : 6 + 3 = 9) (by decide) (fun b6 => ?_) (fun b6 => ?_)
  · refine k_iconst (v := 1) dX12_looks_13 (rfl : 13 + 1 = 14) (by decide) ?_
    refine k_put 12 0 fp_X12_50 dX12_looks_14 (rfl : 14 + 3 = 17) (Nat.le_of_ble_eq_true rfl) rfl (Nat.le_of_ble_eq_true rfl) rfl rfl ?_
    refine kf_Y0 (v := 1) rfl ?_
    refine k_aload_n (i := 0) dX12_looks_17 (rfl : 17 + 1 = 18) rfl rfl ?_
    refine k_get 12 0 fg_X12_50 dX12_looks_18 (rfl : 18 + 3 = 21) (Nat.le_of_ble_eq_true rfl) rfl rfl ?_
    refine k_if_ne (tgt := 28) dX12_looks_21 (rfl : 21 + 3 = 24) (by decide) (fun b21 => ?_) (fun b21 => by exact absurd b21 (by first | decide | (show ¬ (1 : Int32) = 0; decide)))
    refine k_iconst (v := 0) dX12_looks_28 (rfl : 28 + 1 = 29) (by decide) ?_
    refine k_iret rfl rfl dX12_looks_29 (Nat.le_of_ble_eq_true rfl) (Nat.le_of_ble_eq_true rfl) ?_
    exact kRt_of (congrArg (fun z => some (Value.int z)) (Eq.symm (if_pos (show (f_X12_isPlea (x.2 0) a1) = 0 from b6)))) (congrArg (fun z => kTp a9 (kHr z z9)) (Eq.symm (if_pos (show (f_X12_isPlea (x.2 0) a1) = 0 from b6))))
  · refine k_iconst (v := 0) dX12_looks_9 (rfl : 9 + 1 = 10) (by decide) ?_
    refine k_goto (tgt := 14) dX12_looks_10 (by decide) ?_
    refine k_put 12 0 fp_X12_50 dX12_looks_14 (rfl : 14 + 3 = 17) (Nat.le_of_ble_eq_true rfl) rfl (Nat.le_of_ble_eq_true rfl) rfl rfl ?_
    refine kf_Y0 (v := 0) rfl ?_
    refine k_aload_n (i := 0) dX12_looks_17 (rfl : 17 + 1 = 18) rfl rfl ?_
    refine k_get 12 0 fg_X12_50 dX12_looks_18 (rfl : 18 + 3 = 21) (Nat.le_of_ble_eq_true rfl) rfl rfl ?_
    refine k_if_ne (tgt := 28) dX12_looks_21 (rfl : 21 + 3 = 24) (by decide) (fun b21 => by exact absurd (by first | decide | (show (0 : Int32) = 0; decide)) b21) (fun b21 => ?_)
    refine k_iconst (v := 1) dX12_looks_24 (rfl : 24 + 1 = 25) (by decide) ?_
    refine k_goto (tgt := 29) dX12_looks_25 (by decide) ?_
    refine k_iret rfl rfl dX12_looks_29 (Nat.le_of_ble_eq_true rfl) (Nat.le_of_ble_eq_true rfl) ?_
    exact kRt_of (congrArg (fun z => some (Value.int z)) (Eq.symm (if_neg (show ¬ ((f_X12_isPlea (x.2 0) a1) = 0) from b6)))) (congrArg (fun z => kTp a9 (kHr z z9)) (Eq.symm (if_neg (show ¬ ((f_X12_isPlea (x.2 0) a1) = 0) from b6))))
theorem lk_v {x : kY} {a : Int32} : (g_X12_looks x a).2 = x.2 := by
  unfold g_X12_looks
  split <;> rfl
theorem lk_8 {x : kY} {a : Int32} (hv : kMv (x.2 0)) (h : ¬ f_X12_looks x a = 0) : kP8 a := by
  unfold f_X12_looks at h
  by_cases h1 : f_X12_isPlea (x.2 0) a = 0
  · rw [if_pos h1] at h; exact absurd rfl h
  · exact il_8 hv h1
/-- the pleas' hours can be written -/
def kPn2 (v : Nat → Int32) : Prop := ∀ l, l < 8 → (∃ m, m < 10 ^ 9 ∧ v (92 + 3 * l) = nI m) ∧ (∃ m, m < 10 ^ 8 ∧ v (92 + 3 * l + 1) = nI m)
theorem pn_0 {v : Nat → Int32} {a : Int32} (hp : kPn2 v) (h : kP8 a) : ∃ m, m < 10 ^ 9 ∧ v (Int32.toNatClampNeg (f_X12_pleaAt a 0)) = nI m := by
  obtain ⟨n, hn, rfl⟩ := h
  rw [show (0 : Int32) = nI 0 from rfl, plea_at hn (by decide)]
  exact (hp n hn).1
theorem pn_1 {v : Nat → Int32} {a : Int32} (hp : kPn2 v) (h : kP8 a) : ∃ m, m < 10 ^ 9 ∧ v (Int32.toNatClampNeg (f_X12_pleaAt a 1)) = nI m := by
  obtain ⟨n, hn, rfl⟩ := h
  rw [show (1 : Int32) = nI 1 from rfl, plea_at hn (by decide)]
  obtain ⟨m, hm, e⟩ := (hp n hn).2
  exact ⟨m, by omega, e⟩
theorem pn_2 {v : Nat → Int32} {a : Int32} (hp : kPn2 v) (h : kP8 a) : ∃ m, m < 10 ^ 9 ∧ f_X12_until v a = nI m := by
  obtain ⟨n, hn, rfl⟩ := h
  unfold f_X12_until
  rw [show (1 : Int32) = nI 1 from rfl, plea_at hn (by decide)]
  obtain ⟨m, hm, e⟩ := (hp n hn).2
  rw [e, show nI m + 24 = nI (m + 24) from nI_add m 24]
  exact ⟨m + 24, by omega, rfl⟩
theorem ln2_0 {x : kY} : kLn2 (yS x 12 0) 0 := ⟨0, Nat.le_refl _, rfl⟩
def f_X12_describePlea (x : kY) (a1 : Int32) : Int32 := if (f_X12_looks x a1) = 0 then 0 else (if (f_X12_sitsAt ((g_X12_writesNumber (g_X12_writes (g_X12_writesNumber (g_X12_writes (g_X12_writesNumber (g_X12_writes (yS (g_X12_looks x a1) 12 0) 112) (((g_X12_writes (yS (g_X12_looks x a1) 12 0) 112).2 0) (Int32.toNatClampNeg (f_X12_pleaAt a1 0)))) 58) (((g_X12_writes (g_X12_writesNumber (g_X12_writes (yS (g_X12_looks x a1) 12 0) 112) (((g_X12_writes (yS (g_X12_looks x a1) 12 0) 112).2 0) (Int32.toNatClampNeg (f_X12_pleaAt a1 0)))) 58).2 0) (Int32.toNatClampNeg (f_X12_pleaAt a1 1)))) 45) (f_X12_until ((g_X12_writes (g_X12_writesNumber (g_X12_writes (g_X12_writesNumber (g_X12_writes (yS (g_X12_looks x a1) 12 0) 112) (((g_X12_writes (yS (g_X12_looks x a1) 12 0) 112).2 0) (Int32.toNatClampNeg (f_X12_pleaAt a1 0)))) 58) (((g_X12_writes (g_X12_writesNumber (g_X12_writes (yS (g_X12_looks x a1) 12 0) 112) (((g_X12_writes (yS (g_X12_looks x a1) 12 0) 112).2 0) (Int32.toNatClampNeg (f_X12_pleaAt a1 0)))) 58).2 0) (Int32.toNatClampNeg (f_X12_pleaAt a1 1)))) 45).2 0) a1)).2 0) (((g_X12_writesNumber (g_X12_writes (g_X12_writesNumber (g_X12_writes (g_X12_writesNumber (g_X12_writes (yS (g_X12_looks x a1) 12 0) 112) (((g_X12_writes (yS (g_X12_looks x a1) 12 0) 112).2 0) (Int32.toNatClampNeg (f_X12_pleaAt a1 0)))) 58) (((g_X12_writes (g_X12_writesNumber (g_X12_writes (yS (g_X12_looks x a1) 12 0) 112) (((g_X12_writes (yS (g_X12_looks x a1) 12 0) 112).2 0) (Int32.toNatClampNeg (f_X12_pleaAt a1 0)))) 58).2 0) (Int32.toNatClampNeg (f_X12_pleaAt a1 1)))) 45) (f_X12_until ((g_X12_writes (g_X12_writesNumber (g_X12_writes (g_X12_writesNumber (g_X12_writes (yS (g_X12_looks x a1) 12 0) 112) (((g_X12_writes (yS (g_X12_looks x a1) 12 0) 112).2 0) (Int32.toNatClampNeg (f_X12_pleaAt a1 0)))) 58) (((g_X12_writes (g_X12_writesNumber (g_X12_writes (yS (g_X12_looks x a1) 12 0) 112) (((g_X12_writes (yS (g_X12_looks x a1) 12 0) 112).2 0) (Int32.toNatClampNeg (f_X12_pleaAt a1 0)))) 58).2 0) (Int32.toNatClampNeg (f_X12_pleaAt a1 1)))) 45).2 0) a1)).2 0) 0)) = 0 then ((g_X12_writesNumber (g_X12_writes (g_X12_writesNumber (g_X12_writes (g_X12_writesNumber (g_X12_writes (yS (g_X12_looks x a1) 12 0) 112) (((g_X12_writes (yS (g_X12_looks x a1) 12 0) 112).2 0) (Int32.toNatClampNeg (f_X12_pleaAt a1 0)))) 58) (((g_X12_writes (g_X12_writesNumber (g_X12_writes (yS (g_X12_looks x a1) 12 0) 112) (((g_X12_writes (yS (g_X12_looks x a1) 12 0) 112).2 0) (Int32.toNatClampNeg (f_X12_pleaAt a1 0)))) 58).2 0) (Int32.toNatClampNeg (f_X12_pleaAt a1 1)))) 45) (f_X12_until ((g_X12_writes (g_X12_writesNumber (g_X12_writes (g_X12_writesNumber (g_X12_writes (yS (g_X12_looks x a1) 12 0) 112) (((g_X12_writes (yS (g_X12_looks x a1) 12 0) 112).2 0) (Int32.toNatClampNeg (f_X12_pleaAt a1 0)))) 58) (((g_X12_writes (g_X12_writesNumber (g_X12_writes (yS (g_X12_looks x a1) 12 0) 112) (((g_X12_writes (yS (g_X12_looks x a1) 12 0) 112).2 0) (Int32.toNatClampNeg (f_X12_pleaAt a1 0)))) 58).2 0) (Int32.toNatClampNeg (f_X12_pleaAt a1 1)))) 45).2 0) a1)).1 12) else (if (((g_X12_writesNumber (g_X12_writes (g_X12_writesNumber (g_X12_writes (g_X12_writesNumber (g_X12_writes (yS (g_X12_looks x a1) 12 0) 112) (((g_X12_writes (yS (g_X12_looks x a1) 12 0) 112).2 0) (Int32.toNatClampNeg (f_X12_pleaAt a1 0)))) 58) (((g_X12_writes (g_X12_writesNumber (g_X12_writes (yS (g_X12_looks x a1) 12 0) 112) (((g_X12_writes (yS (g_X12_looks x a1) 12 0) 112).2 0) (Int32.toNatClampNeg (f_X12_pleaAt a1 0)))) 58).2 0) (Int32.toNatClampNeg (f_X12_pleaAt a1 1)))) 45) (f_X12_until ((g_X12_writes (g_X12_writesNumber (g_X12_writes (g_X12_writesNumber (g_X12_writes (yS (g_X12_looks x a1) 12 0) 112) (((g_X12_writes (yS (g_X12_looks x a1) 12 0) 112).2 0) (Int32.toNatClampNeg (f_X12_pleaAt a1 0)))) 58) (((g_X12_writes (g_X12_writesNumber (g_X12_writes (yS (g_X12_looks x a1) 12 0) 112) (((g_X12_writes (yS (g_X12_looks x a1) 12 0) 112).2 0) (Int32.toNatClampNeg (f_X12_pleaAt a1 0)))) 58).2 0) (Int32.toNatClampNeg (f_X12_pleaAt a1 1)))) 45).2 0) a1)).2 0) 0) < (((g_X12_writesNumber (g_X12_writes (g_X12_writesNumber (g_X12_writes (g_X12_writesNumber (g_X12_writes (yS (g_X12_looks x a1) 12 0) 112) (((g_X12_writes (yS (g_X12_looks x a1) 12 0) 112).2 0) (Int32.toNatClampNeg (f_X12_pleaAt a1 0)))) 58) (((g_X12_writes (g_X12_writesNumber (g_X12_writes (yS (g_X12_looks x a1) 12 0) 112) (((g_X12_writes (yS (g_X12_looks x a1) 12 0) 112).2 0) (Int32.toNatClampNeg (f_X12_pleaAt a1 0)))) 58).2 0) (Int32.toNatClampNeg (f_X12_pleaAt a1 1)))) 45) (f_X12_until ((g_X12_writes (g_X12_writesNumber (g_X12_writes (g_X12_writesNumber (g_X12_writes (yS (g_X12_looks x a1) 12 0) 112) (((g_X12_writes (yS (g_X12_looks x a1) 12 0) 112).2 0) (Int32.toNatClampNeg (f_X12_pleaAt a1 0)))) 58) (((g_X12_writes (g_X12_writesNumber (g_X12_writes (yS (g_X12_looks x a1) 12 0) 112) (((g_X12_writes (yS (g_X12_looks x a1) 12 0) 112).2 0) (Int32.toNatClampNeg (f_X12_pleaAt a1 0)))) 58).2 0) (Int32.toNatClampNeg (f_X12_pleaAt a1 1)))) 45).2 0) a1)).2 0) (Int32.toNatClampNeg (f_X12_pleaAt a1 1))) then ((g_X12_writesNumber (g_X12_writes (g_X12_writesNumber (g_X12_writes (g_X12_writesNumber (g_X12_writes (yS (g_X12_looks x a1) 12 0) 112) (((g_X12_writes (yS (g_X12_looks x a1) 12 0) 112).2 0) (Int32.toNatClampNeg (f_X12_pleaAt a1 0)))) 58) (((g_X12_writes (g_X12_writesNumber (g_X12_writes (yS (g_X12_looks x a1) 12 0) 112) (((g_X12_writes (yS (g_X12_looks x a1) 12 0) 112).2 0) (Int32.toNatClampNeg (f_X12_pleaAt a1 0)))) 58).2 0) (Int32.toNatClampNeg (f_X12_pleaAt a1 1)))) 45) (f_X12_until ((g_X12_writes (g_X12_writesNumber (g_X12_writes (g_X12_writesNumber (g_X12_writes (yS (g_X12_looks x a1) 12 0) 112) (((g_X12_writes (yS (g_X12_looks x a1) 12 0) 112).2 0) (Int32.toNatClampNeg (f_X12_pleaAt a1 0)))) 58) (((g_X12_writes (g_X12_writesNumber (g_X12_writes (yS (g_X12_looks x a1) 12 0) 112) (((g_X12_writes (yS (g_X12_looks x a1) 12 0) 112).2 0) (Int32.toNatClampNeg (f_X12_pleaAt a1 0)))) 58).2 0) (Int32.toNatClampNeg (f_X12_pleaAt a1 1)))) 45).2 0) a1)).1 12) else ((g_X12_writes (g_X12_writesNumber (g_X12_writes (g_X12_writesNumber (g_X12_writes (g_X12_writesNumber (g_X12_writes (yS (g_X12_looks x a1) 12 0) 112) (((g_X12_writes (yS (g_X12_looks x a1) 12 0) 112).2 0) (Int32.toNatClampNeg (f_X12_pleaAt a1 0)))) 58) (((g_X12_writes (g_X12_writesNumber (g_X12_writes (yS (g_X12_looks x a1) 12 0) 112) (((g_X12_writes (yS (g_X12_looks x a1) 12 0) 112).2 0) (Int32.toNatClampNeg (f_X12_pleaAt a1 0)))) 58).2 0) (Int32.toNatClampNeg (f_X12_pleaAt a1 1)))) 45) (f_X12_until ((g_X12_writes (g_X12_writesNumber (g_X12_writes (g_X12_writesNumber (g_X12_writes (yS (g_X12_looks x a1) 12 0) 112) (((g_X12_writes (yS (g_X12_looks x a1) 12 0) 112).2 0) (Int32.toNatClampNeg (f_X12_pleaAt a1 0)))) 58) (((g_X12_writes (g_X12_writesNumber (g_X12_writes (yS (g_X12_looks x a1) 12 0) 112) (((g_X12_writes (yS (g_X12_looks x a1) 12 0) 112).2 0) (Int32.toNatClampNeg (f_X12_pleaAt a1 0)))) 58).2 0) (Int32.toNatClampNeg (f_X12_pleaAt a1 1)))) 45).2 0) a1)) 42).1 12)))
def g_X12_describePlea (x : kY) (a1 : Int32) : kY := if (f_X12_looks x a1) = 0 then (g_X12_looks x a1) else (if (f_X12_sitsAt ((g_X12_writesNumber (g_X12_writes (g_X12_writesNumber (g_X12_writes (g_X12_writesNumber (g_X12_writes (yS (g_X12_looks x a1) 12 0) 112) (((g_X12_writes (yS (g_X12_looks x a1) 12 0) 112).2 0) (Int32.toNatClampNeg (f_X12_pleaAt a1 0)))) 58) (((g_X12_writes (g_X12_writesNumber (g_X12_writes (yS (g_X12_looks x a1) 12 0) 112) (((g_X12_writes (yS (g_X12_looks x a1) 12 0) 112).2 0) (Int32.toNatClampNeg (f_X12_pleaAt a1 0)))) 58).2 0) (Int32.toNatClampNeg (f_X12_pleaAt a1 1)))) 45) (f_X12_until ((g_X12_writes (g_X12_writesNumber (g_X12_writes (g_X12_writesNumber (g_X12_writes (yS (g_X12_looks x a1) 12 0) 112) (((g_X12_writes (yS (g_X12_looks x a1) 12 0) 112).2 0) (Int32.toNatClampNeg (f_X12_pleaAt a1 0)))) 58) (((g_X12_writes (g_X12_writesNumber (g_X12_writes (yS (g_X12_looks x a1) 12 0) 112) (((g_X12_writes (yS (g_X12_looks x a1) 12 0) 112).2 0) (Int32.toNatClampNeg (f_X12_pleaAt a1 0)))) 58).2 0) (Int32.toNatClampNeg (f_X12_pleaAt a1 1)))) 45).2 0) a1)).2 0) (((g_X12_writesNumber (g_X12_writes (g_X12_writesNumber (g_X12_writes (g_X12_writesNumber (g_X12_writes (yS (g_X12_looks x a1) 12 0) 112) (((g_X12_writes (yS (g_X12_looks x a1) 12 0) 112).2 0) (Int32.toNatClampNeg (f_X12_pleaAt a1 0)))) 58) (((g_X12_writes (g_X12_writesNumber (g_X12_writes (yS (g_X12_looks x a1) 12 0) 112) (((g_X12_writes (yS (g_X12_looks x a1) 12 0) 112).2 0) (Int32.toNatClampNeg (f_X12_pleaAt a1 0)))) 58).2 0) (Int32.toNatClampNeg (f_X12_pleaAt a1 1)))) 45) (f_X12_until ((g_X12_writes (g_X12_writesNumber (g_X12_writes (g_X12_writesNumber (g_X12_writes (yS (g_X12_looks x a1) 12 0) 112) (((g_X12_writes (yS (g_X12_looks x a1) 12 0) 112).2 0) (Int32.toNatClampNeg (f_X12_pleaAt a1 0)))) 58) (((g_X12_writes (g_X12_writesNumber (g_X12_writes (yS (g_X12_looks x a1) 12 0) 112) (((g_X12_writes (yS (g_X12_looks x a1) 12 0) 112).2 0) (Int32.toNatClampNeg (f_X12_pleaAt a1 0)))) 58).2 0) (Int32.toNatClampNeg (f_X12_pleaAt a1 1)))) 45).2 0) a1)).2 0) 0)) = 0 then (g_X12_writesNumber (g_X12_writes (g_X12_writesNumber (g_X12_writes (g_X12_writesNumber (g_X12_writes (yS (g_X12_looks x a1) 12 0) 112) (((g_X12_writes (yS (g_X12_looks x a1) 12 0) 112).2 0) (Int32.toNatClampNeg (f_X12_pleaAt a1 0)))) 58) (((g_X12_writes (g_X12_writesNumber (g_X12_writes (yS (g_X12_looks x a1) 12 0) 112) (((g_X12_writes (yS (g_X12_looks x a1) 12 0) 112).2 0) (Int32.toNatClampNeg (f_X12_pleaAt a1 0)))) 58).2 0) (Int32.toNatClampNeg (f_X12_pleaAt a1 1)))) 45) (f_X12_until ((g_X12_writes (g_X12_writesNumber (g_X12_writes (g_X12_writesNumber (g_X12_writes (yS (g_X12_looks x a1) 12 0) 112) (((g_X12_writes (yS (g_X12_looks x a1) 12 0) 112).2 0) (Int32.toNatClampNeg (f_X12_pleaAt a1 0)))) 58) (((g_X12_writes (g_X12_writesNumber (g_X12_writes (yS (g_X12_looks x a1) 12 0) 112) (((g_X12_writes (yS (g_X12_looks x a1) 12 0) 112).2 0) (Int32.toNatClampNeg (f_X12_pleaAt a1 0)))) 58).2 0) (Int32.toNatClampNeg (f_X12_pleaAt a1 1)))) 45).2 0) a1)) else (if (((g_X12_writesNumber (g_X12_writes (g_X12_writesNumber (g_X12_writes (g_X12_writesNumber (g_X12_writes (yS (g_X12_looks x a1) 12 0) 112) (((g_X12_writes (yS (g_X12_looks x a1) 12 0) 112).2 0) (Int32.toNatClampNeg (f_X12_pleaAt a1 0)))) 58) (((g_X12_writes (g_X12_writesNumber (g_X12_writes (yS (g_X12_looks x a1) 12 0) 112) (((g_X12_writes (yS (g_X12_looks x a1) 12 0) 112).2 0) (Int32.toNatClampNeg (f_X12_pleaAt a1 0)))) 58).2 0) (Int32.toNatClampNeg (f_X12_pleaAt a1 1)))) 45) (f_X12_until ((g_X12_writes (g_X12_writesNumber (g_X12_writes (g_X12_writesNumber (g_X12_writes (yS (g_X12_looks x a1) 12 0) 112) (((g_X12_writes (yS (g_X12_looks x a1) 12 0) 112).2 0) (Int32.toNatClampNeg (f_X12_pleaAt a1 0)))) 58) (((g_X12_writes (g_X12_writesNumber (g_X12_writes (yS (g_X12_looks x a1) 12 0) 112) (((g_X12_writes (yS (g_X12_looks x a1) 12 0) 112).2 0) (Int32.toNatClampNeg (f_X12_pleaAt a1 0)))) 58).2 0) (Int32.toNatClampNeg (f_X12_pleaAt a1 1)))) 45).2 0) a1)).2 0) 0) < (((g_X12_writesNumber (g_X12_writes (g_X12_writesNumber (g_X12_writes (g_X12_writesNumber (g_X12_writes (yS (g_X12_looks x a1) 12 0) 112) (((g_X12_writes (yS (g_X12_looks x a1) 12 0) 112).2 0) (Int32.toNatClampNeg (f_X12_pleaAt a1 0)))) 58) (((g_X12_writes (g_X12_writesNumber (g_X12_writes (yS (g_X12_looks x a1) 12 0) 112) (((g_X12_writes (yS (g_X12_looks x a1) 12 0) 112).2 0) (Int32.toNatClampNeg (f_X12_pleaAt a1 0)))) 58).2 0) (Int32.toNatClampNeg (f_X12_pleaAt a1 1)))) 45) (f_X12_until ((g_X12_writes (g_X12_writesNumber (g_X12_writes (g_X12_writesNumber (g_X12_writes (yS (g_X12_looks x a1) 12 0) 112) (((g_X12_writes (yS (g_X12_looks x a1) 12 0) 112).2 0) (Int32.toNatClampNeg (f_X12_pleaAt a1 0)))) 58) (((g_X12_writes (g_X12_writesNumber (g_X12_writes (yS (g_X12_looks x a1) 12 0) 112) (((g_X12_writes (yS (g_X12_looks x a1) 12 0) 112).2 0) (Int32.toNatClampNeg (f_X12_pleaAt a1 0)))) 58).2 0) (Int32.toNatClampNeg (f_X12_pleaAt a1 1)))) 45).2 0) a1)).2 0) (Int32.toNatClampNeg (f_X12_pleaAt a1 1))) then (g_X12_writesNumber (g_X12_writes (g_X12_writesNumber (g_X12_writes (g_X12_writesNumber (g_X12_writes (yS (g_X12_looks x a1) 12 0) 112) (((g_X12_writes (yS (g_X12_looks x a1) 12 0) 112).2 0) (Int32.toNatClampNeg (f_X12_pleaAt a1 0)))) 58) (((g_X12_writes (g_X12_writesNumber (g_X12_writes (yS (g_X12_looks x a1) 12 0) 112) (((g_X12_writes (yS (g_X12_looks x a1) 12 0) 112).2 0) (Int32.toNatClampNeg (f_X12_pleaAt a1 0)))) 58).2 0) (Int32.toNatClampNeg (f_X12_pleaAt a1 1)))) 45) (f_X12_until ((g_X12_writes (g_X12_writesNumber (g_X12_writes (g_X12_writesNumber (g_X12_writes (yS (g_X12_looks x a1) 12 0) 112) (((g_X12_writes (yS (g_X12_looks x a1) 12 0) 112).2 0) (Int32.toNatClampNeg (f_X12_pleaAt a1 0)))) 58) (((g_X12_writes (g_X12_writesNumber (g_X12_writes (yS (g_X12_looks x a1) 12 0) 112) (((g_X12_writes (yS (g_X12_looks x a1) 12 0) 112).2 0) (Int32.toNatClampNeg (f_X12_pleaAt a1 0)))) 58).2 0) (Int32.toNatClampNeg (f_X12_pleaAt a1 1)))) 45).2 0) a1)) else (g_X12_writes (g_X12_writesNumber (g_X12_writes (g_X12_writesNumber (g_X12_writes (g_X12_writesNumber (g_X12_writes (yS (g_X12_looks x a1) 12 0) 112) (((g_X12_writes (yS (g_X12_looks x a1) 12 0) 112).2 0) (Int32.toNatClampNeg (f_X12_pleaAt a1 0)))) 58) (((g_X12_writes (g_X12_writesNumber (g_X12_writes (yS (g_X12_looks x a1) 12 0) 112) (((g_X12_writes (yS (g_X12_looks x a1) 12 0) 112).2 0) (Int32.toNatClampNeg (f_X12_pleaAt a1 0)))) 58).2 0) (Int32.toNatClampNeg (f_X12_pleaAt a1 1)))) 45) (f_X12_until ((g_X12_writes (g_X12_writesNumber (g_X12_writes (g_X12_writesNumber (g_X12_writes (yS (g_X12_looks x a1) 12 0) 112) (((g_X12_writes (yS (g_X12_looks x a1) 12 0) 112).2 0) (Int32.toNatClampNeg (f_X12_pleaAt a1 0)))) 58) (((g_X12_writes (g_X12_writesNumber (g_X12_writes (yS (g_X12_looks x a1) 12 0) 112) (((g_X12_writes (yS (g_X12_looks x a1) 12 0) 112).2 0) (Int32.toNatClampNeg (f_X12_pleaAt a1 0)))) 58).2 0) (Int32.toNatClampNeg (f_X12_pleaAt a1 1)))) 45).2 0) a1)) 42)))
set_option maxRecDepth 100000 in
set_option maxHeartbeats 4000000 in
theorem m_X12_describePlea {x : kY} {a9 : kH} {z9 : kE × kE} {a1 : Int32} (hv : kMv (x.2 0)) (hp : kPn2 (x.2 0)) : kMet kX12_describePlea false 0 0 [.ref 116, .int a1] (kTp a9 (kHr x z9)) 130 (kRt (some (.int (f_X12_describePlea x a1))) (kTp a9 (kHr (g_X12_describePlea x a1) z9)) 130) := by
  refine kMet.in (by decide) rfl rfl _ rfl ?_
  refine k_aload_n (i := 0) dX12_describePlea_0 (rfl : 0 + 1 = 1) rfl rfl ?_
  refine k_iload_n (i := 1) dX12_describePlea_1 (rfl : 1 + 1 = 2) rfl rfl ?_
  refine k_callVd1 cv_X12_194 ⟨Nat.le_of_ble_eq_true rfl, Nat.le_of_ble_eq_true rfl⟩ (m_X12_looks) dX12_describePlea_2 (rfl : 2 + 3 = 5) (Nat.le_of_ble_eq_true rfl) rfl rfl rfl ⟨Nat.le_of_ble_eq_true rfl, Nat.le_of_ble_eq_true rfl⟩ ?_
  generalize hg1 : (g_X12_looks x a1) = y1
  have vy1 : y1.2 0 = x.2 0 := by rw [← hg1, lk_v]
  refine k_if_ne (tgt := 10) dX12_describePlea_5 (rfl : 5 + 3 = 8) (by decide) (fun b5 => ?_) (fun b5 => ?_)
  · refine k_aload_n (i := 0) dX12_describePlea_10 (rfl : 10 + 1 = 11) rfl rfl ?_
    refine k_iconst (v := 0) dX12_describePlea_11 (rfl : 11 + 1 = 12) (by decide) ?_
    refine k_put 12 23 fp_X12_268 dX12_describePlea_12 (rfl : 12 + 3 = 15) (Nat.le_of_ble_eq_true rfl) rfl (Nat.le_of_ble_eq_true rfl) rfl rfl ?_
    refine kf_Y12 (v := 0) rfl ?_
    refine k_aload_n (i := 0) dX12_describePlea_15 (rfl : 15 + 1 = 16) rfl rfl ?_
    refine k_bipush (v := 112) dX12_describePlea_16 (rfl : 16 + 2 = 18) (by decide) ?_
    refine k_callVv1 cv_X12_271 ⟨Nat.le_of_ble_eq_true rfl, Nat.le_of_ble_eq_true rfl⟩ (m_X12_writes (m := 0) ln2_0 (by decide)) dX12_describePlea_18 (rfl : 18 + 3 = 21) (Nat.le_of_ble_eq_true rfl) rfl rfl rfl ⟨Nat.le_of_ble_eq_true rfl, Nat.le_of_ble_eq_true rfl⟩ ?_
    generalize hg2 : (g_X12_writes (yS y1 12 0) 112) = y2
    have ly2 : kLn2 y2 1 := by rw [← hg2]; exact wr_2 ln2_0
    have vy2 : y2.2 0 = x.2 0 := by rw [← hg2, wr_v]; exact vy1
    refine k_aload_n (i := 0) dX12_describePlea_21 (rfl : 21 + 1 = 22) rfl rfl ?_
    refine k_aload_n (i := 0) dX12_describePlea_22 (rfl : 22 + 1 = 23) rfl rfl ?_
    refine k_get 12 7 fg_X12_16 dX12_describePlea_23 (rfl : 23 + 3 = 26) (Nat.le_of_ble_eq_true rfl) rfl rfl ?_
    refine k_iload_n (i := 1) dX12_describePlea_26 (rfl : 26 + 1 = 27) rfl rfl ?_
    refine k_iconst (v := 0) dX12_describePlea_27 (rfl : 27 + 1 = 28) (by decide) ?_
    refine k_callSd2 cv_X12_77 ⟨Nat.le_of_ble_eq_true rfl, Nat.le_of_ble_eq_true rfl⟩ (m_X12_pleaAt) dX12_describePlea_28 (rfl : 28 + 3 = 31) rfl ⟨Nat.le_of_ble_eq_true rfl, Nat.le_of_ble_eq_true rfl⟩ ?_
    refine k_iald dX12_describePlea_31 (rfl : 31 + 1 = 32) (Nat.le_of_ble_eq_true rfl) rfl (p8_plea (lk_8 hv b5) w3_0) ?_
    refine k_callVv1 cv_X12_274 ⟨Nat.le_of_ble_eq_true rfl, Nat.le_of_ble_eq_true rfl⟩ (m_X12_writesNumber (by rw [vy2]; exact pn_0 hp (lk_8 hv b5)) (by decide) ly2) dX12_describePlea_32 (rfl : 32 + 3 = 35) (Nat.le_of_ble_eq_true rfl) rfl rfl rfl ⟨Nat.le_of_ble_eq_true rfl, Nat.le_of_ble_eq_true rfl⟩ ?_
    generalize hg3 : (g_X12_writesNumber y2 ((y2.2 0) (Int32.toNatClampNeg (f_X12_pleaAt a1 0)))) = y3
    have ly3 : kLn2 y3 11 := by rw [← hg3]; exact wn_2 ly2
    have vy3 : y3.2 0 = x.2 0 := by rw [← hg3, wn_v]; exact vy2
    refine k_aload_n (i := 0) dX12_describePlea_35 (rfl : 35 + 1 = 36) rfl rfl ?_
    refine k_bipush (v := 58) dX12_describePlea_36 (rfl : 36 + 2 = 38) (by decide) ?_
    refine k_callVv1 cv_X12_271 ⟨Nat.le_of_ble_eq_true rfl, Nat.le_of_ble_eq_true rfl⟩ (m_X12_writes ly3 (by decide)) dX12_describePlea_38 (rfl : 38 + 3 = 41) (Nat.le_of_ble_eq_true rfl) rfl rfl rfl ⟨Nat.le_of_ble_eq_true rfl, Nat.le_of_ble_eq_true rfl⟩ ?_
    generalize hg4 : (g_X12_writes y3 58) = y4
    have ly4 : kLn2 y4 12 := by rw [← hg4]; exact wr_2 ly3
    have vy4 : y4.2 0 = x.2 0 := by rw [← hg4, wr_v]; exact vy3
    refine k_aload_n (i := 0) dX12_describePlea_41 (rfl : 41 + 1 = 42) rfl rfl ?_
    refine k_aload_n (i := 0) dX12_describePlea_42 (rfl : 42 + 1 = 43) rfl rfl ?_
    refine k_get 12 7 fg_X12_16 dX12_describePlea_43 (rfl : 43 + 3 = 46) (Nat.le_of_ble_eq_true rfl) rfl rfl ?_
    refine k_iload_n (i := 1) dX12_describePlea_46 (rfl : 46 + 1 = 47) rfl rfl ?_
    refine k_iconst (v := 1) dX12_describePlea_47 (rfl : 47 + 1 = 48) (by decide) ?_
    refine k_callSd2 cv_X12_77 ⟨Nat.le_of_ble_eq_true rfl, Nat.le_of_ble_eq_true rfl⟩ (m_X12_pleaAt) dX12_describePlea_48 (rfl : 48 + 3 = 51) rfl ⟨Nat.le_of_ble_eq_true rfl, Nat.le_of_ble_eq_true rfl⟩ ?_
    refine k_iald dX12_describePlea_51 (rfl : 51 + 1 = 52) (Nat.le_of_ble_eq_true rfl) rfl (p8_plea (lk_8 hv b5) w3_1) ?_
    refine k_callVv1 cv_X12_274 ⟨Nat.le_of_ble_eq_true rfl, Nat.le_of_ble_eq_true rfl⟩ (m_X12_writesNumber (by rw [vy4]; exact pn_1 hp (lk_8 hv b5)) (by decide) ly4) dX12_describePlea_52 (rfl : 52 + 3 = 55) (Nat.le_of_ble_eq_true rfl) rfl rfl rfl ⟨Nat.le_of_ble_eq_true rfl, Nat.le_of_ble_eq_true rfl⟩ ?_
    generalize hg5 : (g_X12_writesNumber y4 ((y4.2 0) (Int32.toNatClampNeg (f_X12_pleaAt a1 1)))) = y5
    have ly5 : kLn2 y5 22 := by rw [← hg5]; exact wn_2 ly4
    have vy5 : y5.2 0 = x.2 0 := by rw [← hg5, wn_v]; exact vy4
    refine k_aload_n (i := 0) dX12_describePlea_55 (rfl : 55 + 1 = 56) rfl rfl ?_
    refine k_bipush (v := 45) dX12_describePlea_56 (rfl : 56 + 2 = 58) (by decide) ?_
    refine k_callVv1 cv_X12_271 ⟨Nat.le_of_ble_eq_true rfl, Nat.le_of_ble_eq_true rfl⟩ (m_X12_writes ly5 (by decide)) dX12_describePlea_58 (rfl : 58 + 3 = 61) (Nat.le_of_ble_eq_true rfl) rfl rfl rfl ⟨Nat.le_of_ble_eq_true rfl, Nat.le_of_ble_eq_true rfl⟩ ?_
    generalize hg6 : (g_X12_writes y5 45) = y6
    have ly6 : kLn2 y6 23 := by rw [← hg6]; exact wr_2 ly5
    have vy6 : y6.2 0 = x.2 0 := by rw [← hg6, wr_v]; exact vy5
    refine k_aload_n (i := 0) dX12_describePlea_61 (rfl : 61 + 1 = 62) rfl rfl ?_
    refine k_aload_n (i := 0) dX12_describePlea_62 (rfl : 62 + 1 = 63) rfl rfl ?_
    refine k_iload_n (i := 1) dX12_describePlea_63 (rfl : 63 + 1 = 64) rfl rfl ?_
    refine k_callVd1 cv_X12_197 ⟨Nat.le_of_ble_eq_true rfl, Nat.le_of_ble_eq_true rfl⟩ (m_X12_until (lk_8 hv b5)) dX12_describePlea_64 (rfl : 64 + 3 = 67) (Nat.le_of_ble_eq_true rfl) rfl rfl rfl ⟨Nat.le_of_ble_eq_true rfl, Nat.le_of_ble_eq_true rfl⟩ ?_
    refine k_callVv1 cv_X12_274 ⟨Nat.le_of_ble_eq_true rfl, Nat.le_of_ble_eq_true rfl⟩ (m_X12_writesNumber (by rw [vy6]; exact pn_2 hp (lk_8 hv b5)) (by decide) ly6) dX12_describePlea_67 (rfl : 67 + 3 = 70) (Nat.le_of_ble_eq_true rfl) rfl rfl rfl ⟨Nat.le_of_ble_eq_true rfl, Nat.le_of_ble_eq_true rfl⟩ ?_
    generalize hg7 : (g_X12_writesNumber y6 (f_X12_until (y6.2 0) a1)) = y7
    have ly7 : kLn2 y7 33 := by rw [← hg7]; exact wn_2 ly6
    have vy7 : y7.2 0 = x.2 0 := by rw [← hg7, wn_v]; exact vy6
    refine k_aload_n (i := 0) dX12_describePlea_70 (rfl : 70 + 1 = 71) rfl rfl ?_
    refine k_aload_n (i := 0) dX12_describePlea_71 (rfl : 71 + 1 = 72) rfl rfl ?_
    refine k_get 12 7 fg_X12_16 dX12_describePlea_72 (rfl : 72 + 3 = 75) (Nat.le_of_ble_eq_true rfl) rfl rfl ?_
    refine k_iconst (v := 0) dX12_describePlea_75 (rfl : 75 + 1 = 76) (by decide) ?_
    refine k_ialdc (c := 0) (by decide) dX12_describePlea_76 (rfl : 76 + 1 = 77) (Nat.le_of_ble_eq_true rfl) rfl (vp_in_iff.mpr (by decide)) ?_
    refine k_callVd1 cv_X12_184 ⟨Nat.le_of_ble_eq_true rfl, Nat.le_of_ble_eq_true rfl⟩ (m_X12_sitsAt) dX12_describePlea_77 (rfl : 77 + 3 = 80) (Nat.le_of_ble_eq_true rfl) rfl rfl rfl ⟨Nat.le_of_ble_eq_true rfl, Nat.le_of_ble_eq_true rfl⟩ ?_
    refine k_if_eq (tgt := 108) dX12_describePlea_80 (rfl : 80 + 3 = 83) (by decide) (fun b80 => ?_) (fun b80 => ?_)
    · refine k_aload_n (i := 0) dX12_describePlea_108 (rfl : 108 + 1 = 109) rfl rfl ?_
      refine k_get 12 23 fg_X12_268 dX12_describePlea_109 (rfl : 109 + 3 = 112) (Nat.le_of_ble_eq_true rfl) rfl rfl ?_
      refine k_iret rfl rfl dX12_describePlea_112 (Nat.le_of_ble_eq_true rfl) (Nat.le_of_ble_eq_true rfl) ?_
      subst hg7
      subst hg6
      subst hg5
      subst hg4
      subst hg3
      subst hg2
      subst hg1
      exact kRt_of (congrArg (fun z => some (Value.int z)) (Eq.symm (Eq.trans (if_neg (show ¬ ((f_X12_looks x a1) = 0) from b5)) (if_pos (show (f_X12_sitsAt ((g_X12_writesNumber (g_X12_writes (g_X12_writesNumber (g_X12_writes (g_X12_writesNumber (g_X12_writes (yS (g_X12_looks x a1) 12 0) 112) (((g_X12_writes (yS (g_X12_looks x a1) 12 0) 112).2 0) (Int32.toNatClampNeg (f_X12_pleaAt a1 0)))) 58) (((g_X12_writes (g_X12_writesNumber (g_X12_writes (yS (g_X12_looks x a1) 12 0) 112) (((g_X12_writes (yS (g_X12_looks x a1) 12 0) 112).2 0) (Int32.toNatClampNeg (f_X12_pleaAt a1 0)))) 58).2 0) (Int32.toNatClampNeg (f_X12_pleaAt a1 1)))) 45) (f_X12_until ((g_X12_writes (g_X12_writesNumber (g_X12_writes (g_X12_writesNumber (g_X12_writes (yS (g_X12_looks x a1) 12 0) 112) (((g_X12_writes (yS (g_X12_looks x a1) 12 0) 112).2 0) (Int32.toNatClampNeg (f_X12_pleaAt a1 0)))) 58) (((g_X12_writes (g_X12_writesNumber (g_X12_writes (yS (g_X12_looks x a1) 12 0) 112) (((g_X12_writes (yS (g_X12_looks x a1) 12 0) 112).2 0) (Int32.toNatClampNeg (f_X12_pleaAt a1 0)))) 58).2 0) (Int32.toNatClampNeg (f_X12_pleaAt a1 1)))) 45).2 0) a1)).2 0) (((g_X12_writesNumber (g_X12_writes (g_X12_writesNumber (g_X12_writes (g_X12_writesNumber (g_X12_writes (yS (g_X12_looks x a1) 12 0) 112) (((g_X12_writes (yS (g_X12_looks x a1) 12 0) 112).2 0) (Int32.toNatClampNeg (f_X12_pleaAt a1 0)))) 58) (((g_X12_writes (g_X12_writesNumber (g_X12_writes (yS (g_X12_looks x a1) 12 0) 112) (((g_X12_writes (yS (g_X12_looks x a1) 12 0) 112).2 0) (Int32.toNatClampNeg (f_X12_pleaAt a1 0)))) 58).2 0) (Int32.toNatClampNeg (f_X12_pleaAt a1 1)))) 45) (f_X12_until ((g_X12_writes (g_X12_writesNumber (g_X12_writes (g_X12_writesNumber (g_X12_writes (yS (g_X12_looks x a1) 12 0) 112) (((g_X12_writes (yS (g_X12_looks x a1) 12 0) 112).2 0) (Int32.toNatClampNeg (f_X12_pleaAt a1 0)))) 58) (((g_X12_writes (g_X12_writesNumber (g_X12_writes (yS (g_X12_looks x a1) 12 0) 112) (((g_X12_writes (yS (g_X12_looks x a1) 12 0) 112).2 0) (Int32.toNatClampNeg (f_X12_pleaAt a1 0)))) 58).2 0) (Int32.toNatClampNeg (f_X12_pleaAt a1 1)))) 45).2 0) a1)).2 0) 0)) = 0 from b80))))) (congrArg (fun z => kTp a9 (kHr z z9)) (Eq.symm (Eq.trans (if_neg (show ¬ ((f_X12_looks x a1) = 0) from b5)) (if_pos (show (f_X12_sitsAt ((g_X12_writesNumber (g_X12_writes (g_X12_writesNumber (g_X12_writes (g_X12_writesNumber (g_X12_writes (yS (g_X12_looks x a1) 12 0) 112) (((g_X12_writes (yS (g_X12_looks x a1) 12 0) 112).2 0) (Int32.toNatClampNeg (f_X12_pleaAt a1 0)))) 58) (((g_X12_writes (g_X12_writesNumber (g_X12_writes (yS (g_X12_looks x a1) 12 0) 112) (((g_X12_writes (yS (g_X12_looks x a1) 12 0) 112).2 0) (Int32.toNatClampNeg (f_X12_pleaAt a1 0)))) 58).2 0) (Int32.toNatClampNeg (f_X12_pleaAt a1 1)))) 45) (f_X12_until ((g_X12_writes (g_X12_writesNumber (g_X12_writes (g_X12_writesNumber (g_X12_writes (yS (g_X12_looks x a1) 12 0) 112) (((g_X12_writes (yS (g_X12_looks x a1) 12 0) 112).2 0) (Int32.toNatClampNeg (f_X12_pleaAt a1 0)))) 58) (((g_X12_writes (g_X12_writesNumber (g_X12_writes (yS (g_X12_looks x a1) 12 0) 112) (((g_X12_writes (yS (g_X12_looks x a1) 12 0) 112).2 0) (Int32.toNatClampNeg (f_X12_pleaAt a1 0)))) 58).2 0) (Int32.toNatClampNeg (f_X12_pleaAt a1 1)))) 45).2 0) a1)).2 0) (((g_X12_writesNumber (g_X12_writes (g_X12_writesNumber (g_X12_writes (g_X12_writesNumber (g_X12_writes (yS (g_X12_looks x a1) 12 0) 112) (((g_X12_writes (yS (g_X12_looks x a1) 12 0) 112).2 0) (Int32.toNatClampNeg (f_X12_pleaAt a1 0)))) 58) (((g_X12_writes (g_X12_writesNumber (g_X12_writes (yS (g_X12_looks x a1) 12 0) 112) (((g_X12_writes (yS (g_X12_looks x a1) 12 0) 112).2 0) (Int32.toNatClampNeg (f_X12_pleaAt a1 0)))) 58).2 0) (Int32.toNatClampNeg (f_X12_pleaAt a1 1)))) 45) (f_X12_until ((g_X12_writes (g_X12_writesNumber (g_X12_writes (g_X12_writesNumber (g_X12_writes (yS (g_X12_looks x a1) 12 0) 112) (((g_X12_writes (yS (g_X12_looks x a1) 12 0) 112).2 0) (Int32.toNatClampNeg (f_X12_pleaAt a1 0)))) 58) (((g_X12_writes (g_X12_writesNumber (g_X12_writes (yS (g_X12_looks x a1) 12 0) 112) (((g_X12_writes (yS (g_X12_looks x a1) 12 0) 112).2 0) (Int32.toNatClampNeg (f_X12_pleaAt a1 0)))) 58).2 0) (Int32.toNatClampNeg (f_X12_pleaAt a1 1)))) 45).2 0) a1)).2 0) 0)) = 0 from b80)))))
    · refine k_aload_n (i := 0) dX12_describePlea_83 (rfl : 83 + 1 = 84) rfl rfl ?_
      refine k_get 12 7 fg_X12_16 dX12_describePlea_84 (rfl : 84 + 3 = 87) (Nat.le_of_ble_eq_true rfl) rfl rfl ?_
      refine k_iload_n (i := 1) dX12_describePlea_87 (rfl : 87 + 1 = 88) rfl rfl ?_
      refine k_iconst (v := 1) dX12_describePlea_88 (rfl : 88 + 1 = 89) (by decide) ?_
      refine k_callSd2 cv_X12_77 ⟨Nat.le_of_ble_eq_true rfl, Nat.le_of_ble_eq_true rfl⟩ (m_X12_pleaAt) dX12_describePlea_89 (rfl : 89 + 3 = 92) rfl ⟨Nat.le_of_ble_eq_true rfl, Nat.le_of_ble_eq_true rfl⟩ ?_
      refine k_iald dX12_describePlea_92 (rfl : 92 + 1 = 93) (Nat.le_of_ble_eq_true rfl) rfl (p8_plea (lk_8 hv b5) w3_1) ?_
      refine k_aload_n (i := 0) dX12_describePlea_93 (rfl : 93 + 1 = 94) rfl rfl ?_
      refine k_get 12 7 fg_X12_16 dX12_describePlea_94 (rfl : 94 + 3 = 97) (Nat.le_of_ble_eq_true rfl) rfl rfl ?_
      refine k_iconst (v := 0) dX12_describePlea_97 (rfl : 97 + 1 = 98) (by decide) ?_
      refine k_ialdc (c := 0) (by decide) dX12_describePlea_98 (rfl : 98 + 1 = 99) (Nat.le_of_ble_eq_true rfl) rfl (vp_in_iff.mpr (by decide)) ?_
      refine k_icmp_gt (tgt := 108) dX12_describePlea_99 (rfl : 99 + 3 = 102) (by decide) (fun b99 => ?_) (fun b99 => ?_)
      · refine k_aload_n (i := 0) dX12_describePlea_108 (rfl : 108 + 1 = 109) rfl rfl ?_
        refine k_get 12 23 fg_X12_268 dX12_describePlea_109 (rfl : 109 + 3 = 112) (Nat.le_of_ble_eq_true rfl) rfl rfl ?_
        refine k_iret rfl rfl dX12_describePlea_112 (Nat.le_of_ble_eq_true rfl) (Nat.le_of_ble_eq_true rfl) ?_
        subst hg7
        subst hg6
        subst hg5
        subst hg4
        subst hg3
        subst hg2
        subst hg1
        exact kRt_of (congrArg (fun z => some (Value.int z)) (Eq.symm (Eq.trans (if_neg (show ¬ ((f_X12_looks x a1) = 0) from b5)) (Eq.trans (if_neg (show ¬ ((f_X12_sitsAt ((g_X12_writesNumber (g_X12_writes (g_X12_writesNumber (g_X12_writes (g_X12_writesNumber (g_X12_writes (yS (g_X12_looks x a1) 12 0) 112) (((g_X12_writes (yS (g_X12_looks x a1) 12 0) 112).2 0) (Int32.toNatClampNeg (f_X12_pleaAt a1 0)))) 58) (((g_X12_writes (g_X12_writesNumber (g_X12_writes (yS (g_X12_looks x a1) 12 0) 112) (((g_X12_writes (yS (g_X12_looks x a1) 12 0) 112).2 0) (Int32.toNatClampNeg (f_X12_pleaAt a1 0)))) 58).2 0) (Int32.toNatClampNeg (f_X12_pleaAt a1 1)))) 45) (f_X12_until ((g_X12_writes (g_X12_writesNumber (g_X12_writes (g_X12_writesNumber (g_X12_writes (yS (g_X12_looks x a1) 12 0) 112) (((g_X12_writes (yS (g_X12_looks x a1) 12 0) 112).2 0) (Int32.toNatClampNeg (f_X12_pleaAt a1 0)))) 58) (((g_X12_writes (g_X12_writesNumber (g_X12_writes (yS (g_X12_looks x a1) 12 0) 112) (((g_X12_writes (yS (g_X12_looks x a1) 12 0) 112).2 0) (Int32.toNatClampNeg (f_X12_pleaAt a1 0)))) 58).2 0) (Int32.toNatClampNeg (f_X12_pleaAt a1 1)))) 45).2 0) a1)).2 0) (((g_X12_writesNumber (g_X12_writes (g_X12_writesNumber (g_X12_writes (g_X12_writesNumber (g_X12_writes (yS (g_X12_looks x a1) 12 0) 112) (((g_X12_writes (yS (g_X12_looks x a1) 12 0) 112).2 0) (Int32.toNatClampNeg (f_X12_pleaAt a1 0)))) 58) (((g_X12_writes (g_X12_writesNumber (g_X12_writes (yS (g_X12_looks x a1) 12 0) 112) (((g_X12_writes (yS (g_X12_looks x a1) 12 0) 112).2 0) (Int32.toNatClampNeg (f_X12_pleaAt a1 0)))) 58).2 0) (Int32.toNatClampNeg (f_X12_pleaAt a1 1)))) 45) (f_X12_until ((g_X12_writes (g_X12_writesNumber (g_X12_writes (g_X12_writesNumber (g_X12_writes (yS (g_X12_looks x a1) 12 0) 112) (((g_X12_writes (yS (g_X12_looks x a1) 12 0) 112).2 0) (Int32.toNatClampNeg (f_X12_pleaAt a1 0)))) 58) (((g_X12_writes (g_X12_writesNumber (g_X12_writes (yS (g_X12_looks x a1) 12 0) 112) (((g_X12_writes (yS (g_X12_looks x a1) 12 0) 112).2 0) (Int32.toNatClampNeg (f_X12_pleaAt a1 0)))) 58).2 0) (Int32.toNatClampNeg (f_X12_pleaAt a1 1)))) 45).2 0) a1)).2 0) 0)) = 0) from b80)) (if_pos (show (((g_X12_writesNumber (g_X12_writes (g_X12_writesNumber (g_X12_writes (g_X12_writesNumber (g_X12_writes (yS (g_X12_looks x a1) 12 0) 112) (((g_X12_writes (yS (g_X12_looks x a1) 12 0) 112).2 0) (Int32.toNatClampNeg (f_X12_pleaAt a1 0)))) 58) (((g_X12_writes (g_X12_writesNumber (g_X12_writes (yS (g_X12_looks x a1) 12 0) 112) (((g_X12_writes (yS (g_X12_looks x a1) 12 0) 112).2 0) (Int32.toNatClampNeg (f_X12_pleaAt a1 0)))) 58).2 0) (Int32.toNatClampNeg (f_X12_pleaAt a1 1)))) 45) (f_X12_until ((g_X12_writes (g_X12_writesNumber (g_X12_writes (g_X12_writesNumber (g_X12_writes (yS (g_X12_looks x a1) 12 0) 112) (((g_X12_writes (yS (g_X12_looks x a1) 12 0) 112).2 0) (Int32.toNatClampNeg (f_X12_pleaAt a1 0)))) 58) (((g_X12_writes (g_X12_writesNumber (g_X12_writes (yS (g_X12_looks x a1) 12 0) 112) (((g_X12_writes (yS (g_X12_looks x a1) 12 0) 112).2 0) (Int32.toNatClampNeg (f_X12_pleaAt a1 0)))) 58).2 0) (Int32.toNatClampNeg (f_X12_pleaAt a1 1)))) 45).2 0) a1)).2 0) 0) < (((g_X12_writesNumber (g_X12_writes (g_X12_writesNumber (g_X12_writes (g_X12_writesNumber (g_X12_writes (yS (g_X12_looks x a1) 12 0) 112) (((g_X12_writes (yS (g_X12_looks x a1) 12 0) 112).2 0) (Int32.toNatClampNeg (f_X12_pleaAt a1 0)))) 58) (((g_X12_writes (g_X12_writesNumber (g_X12_writes (yS (g_X12_looks x a1) 12 0) 112) (((g_X12_writes (yS (g_X12_looks x a1) 12 0) 112).2 0) (Int32.toNatClampNeg (f_X12_pleaAt a1 0)))) 58).2 0) (Int32.toNatClampNeg (f_X12_pleaAt a1 1)))) 45) (f_X12_until ((g_X12_writes (g_X12_writesNumber (g_X12_writes (g_X12_writesNumber (g_X12_writes (yS (g_X12_looks x a1) 12 0) 112) (((g_X12_writes (yS (g_X12_looks x a1) 12 0) 112).2 0) (Int32.toNatClampNeg (f_X12_pleaAt a1 0)))) 58) (((g_X12_writes (g_X12_writesNumber (g_X12_writes (yS (g_X12_looks x a1) 12 0) 112) (((g_X12_writes (yS (g_X12_looks x a1) 12 0) 112).2 0) (Int32.toNatClampNeg (f_X12_pleaAt a1 0)))) 58).2 0) (Int32.toNatClampNeg (f_X12_pleaAt a1 1)))) 45).2 0) a1)).2 0) (Int32.toNatClampNeg (f_X12_pleaAt a1 1))) from b99)))))) (congrArg (fun z => kTp a9 (kHr z z9)) (Eq.symm (Eq.trans (if_neg (show ¬ ((f_X12_looks x a1) = 0) from b5)) (Eq.trans (if_neg (show ¬ ((f_X12_sitsAt ((g_X12_writesNumber (g_X12_writes (g_X12_writesNumber (g_X12_writes (g_X12_writesNumber (g_X12_writes (yS (g_X12_looks x a1) 12 0) 112) (((g_X12_writes (yS (g_X12_looks x a1) 12 0) 112).2 0) (Int32.toNatClampNeg (f_X12_pleaAt a1 0)))) 58) (((g_X12_writes (g_X12_writesNumber (g_X12_writes (yS (g_X12_looks x a1) 12 0) 112) (((g_X12_writes (yS (g_X12_looks x a1) 12 0) 112).2 0) (Int32.toNatClampNeg (f_X12_pleaAt a1 0)))) 58).2 0) (Int32.toNatClampNeg (f_X12_pleaAt a1 1)))) 45) (f_X12_until ((g_X12_writes (g_X12_writesNumber (g_X12_writes (g_X12_writesNumber (g_X12_writes (yS (g_X12_looks x a1) 12 0) 112) (((g_X12_writes (yS (g_X12_looks x a1) 12 0) 112).2 0) (Int32.toNatClampNeg (f_X12_pleaAt a1 0)))) 58) (((g_X12_writes (g_X12_writesNumber (g_X12_writes (yS (g_X12_looks x a1) 12 0) 112) (((g_X12_writes (yS (g_X12_looks x a1) 12 0) 112).2 0) (Int32.toNatClampNeg (f_X12_pleaAt a1 0)))) 58).2 0) (Int32.toNatClampNeg (f_X12_pleaAt a1 1)))) 45).2 0) a1)).2 0) (((g_X12_writesNumber (g_X12_writes (g_X12_writesNumber (g_X12_writes (g_X12_writesNumber (g_X12_writes (yS (g_X12_looks x a1) 12 0) 112) (((g_X12_writes (yS (g_X12_looks x a1) 12 0) 112).2 0) (Int32.toNatClampNeg (f_X12_pleaAt a1 0)))) 58) (((g_X12_writes (g_X12_writesNumber (g_X12_writes (yS (g_X12_looks x a1) 12 0) 112) (((g_X12_writes (yS (g_X12_looks x a1) 12 0) 112).2 0) (Int32.toNatClampNeg (f_X12_pleaAt a1 0)))) 58).2 0) (Int32.toNatClampNeg (f_X12_pleaAt a1 1)))) 45) (f_X12_until ((g_X12_writes (g_X12_writesNumber (g_X12_writes (g_X12_writesNumber (g_X12_writes (yS (g_X12_looks x a1) 12 0) 112) (((g_X12_writes (yS (g_X12_looks x a1) 12 0) 112).2 0) (Int32.toNatClampNeg (f_X12_pleaAt a1 0)))) 58) (((g_X12_writes (g_X12_writesNumber (g_X12_writes (yS (g_X12_looks x a1) 12 0) 112) (((g_X12_writes (yS (g_X12_looks x a1) 12 0) 112).2 0) (Int32.toNatClampNeg (f_X12_pleaAt a1 0)))) 58).2 0) (Int32.toNatClampNeg (f_X12_pleaAt a1 1)))) 45).2 0) a1)).2 0) 0)) = 0) from b80)) (if_pos (show (((g_X12_writesNumber (g_X12_writes (g_X12_writesNumber (g_X12_writes (g_X12_writesNumber (g_X12_writes (yS (g_X12_looks x a1) 12 0) 112) (((g_X12_writes (yS (g_X12_looks x a1) 12 0) 112).2 0) (Int32.toNatClampNeg (f_X12_pleaAt a1 0)))) 58) (((g_X12_writes (g_X12_writesNumber (g_X12_writes (yS (g_X12_looks x a1) 12 0) 112) (((g_X12_writes (yS (g_X12_looks x a1) 12 0) 112).2 0) (Int32.toNatClampNeg (f_X12_pleaAt a1 0)))) 58).2 0) (Int32.toNatClampNeg (f_X12_pleaAt a1 1)))) 45) (f_X12_until ((g_X12_writes (g_X12_writesNumber (g_X12_writes (g_X12_writesNumber (g_X12_writes (yS (g_X12_looks x a1) 12 0) 112) (((g_X12_writes (yS (g_X12_looks x a1) 12 0) 112).2 0) (Int32.toNatClampNeg (f_X12_pleaAt a1 0)))) 58) (((g_X12_writes (g_X12_writesNumber (g_X12_writes (yS (g_X12_looks x a1) 12 0) 112) (((g_X12_writes (yS (g_X12_looks x a1) 12 0) 112).2 0) (Int32.toNatClampNeg (f_X12_pleaAt a1 0)))) 58).2 0) (Int32.toNatClampNeg (f_X12_pleaAt a1 1)))) 45).2 0) a1)).2 0) 0) < (((g_X12_writesNumber (g_X12_writes (g_X12_writesNumber (g_X12_writes (g_X12_writesNumber (g_X12_writes (yS (g_X12_looks x a1) 12 0) 112) (((g_X12_writes (yS (g_X12_looks x a1) 12 0) 112).2 0) (Int32.toNatClampNeg (f_X12_pleaAt a1 0)))) 58) (((g_X12_writes (g_X12_writesNumber (g_X12_writes (yS (g_X12_looks x a1) 12 0) 112) (((g_X12_writes (yS (g_X12_looks x a1) 12 0) 112).2 0) (Int32.toNatClampNeg (f_X12_pleaAt a1 0)))) 58).2 0) (Int32.toNatClampNeg (f_X12_pleaAt a1 1)))) 45) (f_X12_until ((g_X12_writes (g_X12_writesNumber (g_X12_writes (g_X12_writesNumber (g_X12_writes (yS (g_X12_looks x a1) 12 0) 112) (((g_X12_writes (yS (g_X12_looks x a1) 12 0) 112).2 0) (Int32.toNatClampNeg (f_X12_pleaAt a1 0)))) 58) (((g_X12_writes (g_X12_writesNumber (g_X12_writes (yS (g_X12_looks x a1) 12 0) 112) (((g_X12_writes (yS (g_X12_looks x a1) 12 0) 112).2 0) (Int32.toNatClampNeg (f_X12_pleaAt a1 0)))) 58).2 0) (Int32.toNatClampNeg (f_X12_pleaAt a1 1)))) 45).2 0) a1)).2 0) (Int32.toNatClampNeg (f_X12_pleaAt a1 1))) from b99))))))
      · refine k_aload_n (i := 0) dX12_describePlea_102 (rfl : 102 + 1 = 103) rfl rfl ?_
        refine k_bipush (v := 42) dX12_describePlea_103 (rfl : 103 + 2 = 105) (by decide) ?_
        refine k_callVv1 cv_X12_271 ⟨Nat.le_of_ble_eq_true rfl, Nat.le_of_ble_eq_true rfl⟩ (m_X12_writes ly7 (by decide)) dX12_describePlea_105 (rfl : 105 + 3 = 108) (Nat.le_of_ble_eq_true rfl) rfl rfl rfl ⟨Nat.le_of_ble_eq_true rfl, Nat.le_of_ble_eq_true rfl⟩ ?_
        generalize hg8 : (g_X12_writes y7 42) = y8
        have ly8 : kLn2 y8 34 := by rw [← hg8]; exact wr_2 ly7
        have vy8 : y8.2 0 = x.2 0 := by rw [← hg8, wr_v]; exact vy7
        refine k_aload_n (i := 0) dX12_describePlea_108 (rfl : 108 + 1 = 109) rfl rfl ?_
        refine k_get 12 23 fg_X12_268 dX12_describePlea_109 (rfl : 109 + 3 = 112) (Nat.le_of_ble_eq_true rfl) rfl rfl ?_
        refine k_iret rfl rfl dX12_describePlea_112 (Nat.le_of_ble_eq_true rfl) (Nat.le_of_ble_eq_true rfl) ?_
        subst hg8
        subst hg7
        subst hg6
        subst hg5
        subst hg4
        subst hg3
        subst hg2
        subst hg1
        exact kRt_of (congrArg (fun z => some (Value.int z)) (Eq.symm (Eq.trans (if_neg (show ¬ ((f_X12_looks x a1) = 0) from b5)) (Eq.trans (if_neg (show ¬ ((f_X12_sitsAt ((g_X12_writesNumber (g_X12_writes (g_X12_writesNumber (g_X12_writes (g_X12_writesNumber (g_X12_writes (yS (g_X12_looks x a1) 12 0) 112) (((g_X12_writes (yS (g_X12_looks x a1) 12 0) 112).2 0) (Int32.toNatClampNeg (f_X12_pleaAt a1 0)))) 58) (((g_X12_writes (g_X12_writesNumber (g_X12_writes (yS (g_X12_looks x a1) 12 0) 112) (((g_X12_writes (yS (g_X12_looks x a1) 12 0) 112).2 0) (Int32.toNatClampNeg (f_X12_pleaAt a1 0)))) 58).2 0) (Int32.toNatClampNeg (f_X12_pleaAt a1 1)))) 45) (f_X12_until ((g_X12_writes (g_X12_writesNumber (g_X12_writes (g_X12_writesNumber (g_X12_writes (yS (g_X12_looks x a1) 12 0) 112) (((g_X12_writes (yS (g_X12_looks x a1) 12 0) 112).2 0) (Int32.toNatClampNeg (f_X12_pleaAt a1 0)))) 58) (((g_X12_writes (g_X12_writesNumber (g_X12_writes (yS (g_X12_looks x a1) 12 0) 112) (((g_X12_writes (yS (g_X12_looks x a1) 12 0) 112).2 0) (Int32.toNatClampNeg (f_X12_pleaAt a1 0)))) 58).2 0) (Int32.toNatClampNeg (f_X12_pleaAt a1 1)))) 45).2 0) a1)).2 0) (((g_X12_writesNumber (g_X12_writes (g_X12_writesNumber (g_X12_writes (g_X12_writesNumber (g_X12_writes (yS (g_X12_looks x a1) 12 0) 112) (((g_X12_writes (yS (g_X12_looks x a1) 12 0) 112).2 0) (Int32.toNatClampNeg (f_X12_pleaAt a1 0)))) 58) (((g_X12_writes (g_X12_writesNumber (g_X12_writes (yS (g_X12_looks x a1) 12 0) 112) (((g_X12_writes (yS (g_X12_looks x a1) 12 0) 112).2 0) (Int32.toNatClampNeg (f_X12_pleaAt a1 0)))) 58).2 0) (Int32.toNatClampNeg (f_X12_pleaAt a1 1)))) 45) (f_X12_until ((g_X12_writes (g_X12_writesNumber (g_X12_writes (g_X12_writesNumber (g_X12_writes (yS (g_X12_looks x a1) 12 0) 112) (((g_X12_writes (yS (g_X12_looks x a1) 12 0) 112).2 0) (Int32.toNatClampNeg (f_X12_pleaAt a1 0)))) 58) (((g_X12_writes (g_X12_writesNumber (g_X12_writes (yS (g_X12_looks x a1) 12 0) 112) (((g_X12_writes (yS (g_X12_looks x a1) 12 0) 112).2 0) (Int32.toNatClampNeg (f_X12_pleaAt a1 0)))) 58).2 0) (Int32.toNatClampNeg (f_X12_pleaAt a1 1)))) 45).2 0) a1)).2 0) 0)) = 0) from b80)) (if_neg (show ¬ ((((g_X12_writesNumber (g_X12_writes (g_X12_writesNumber (g_X12_writes (g_X12_writesNumber (g_X12_writes (yS (g_X12_looks x a1) 12 0) 112) (((g_X12_writes (yS (g_X12_looks x a1) 12 0) 112).2 0) (Int32.toNatClampNeg (f_X12_pleaAt a1 0)))) 58) (((g_X12_writes (g_X12_writesNumber (g_X12_writes (yS (g_X12_looks x a1) 12 0) 112) (((g_X12_writes (yS (g_X12_looks x a1) 12 0) 112).2 0) (Int32.toNatClampNeg (f_X12_pleaAt a1 0)))) 58).2 0) (Int32.toNatClampNeg (f_X12_pleaAt a1 1)))) 45) (f_X12_until ((g_X12_writes (g_X12_writesNumber (g_X12_writes (g_X12_writesNumber (g_X12_writes (yS (g_X12_looks x a1) 12 0) 112) (((g_X12_writes (yS (g_X12_looks x a1) 12 0) 112).2 0) (Int32.toNatClampNeg (f_X12_pleaAt a1 0)))) 58) (((g_X12_writes (g_X12_writesNumber (g_X12_writes (yS (g_X12_looks x a1) 12 0) 112) (((g_X12_writes (yS (g_X12_looks x a1) 12 0) 112).2 0) (Int32.toNatClampNeg (f_X12_pleaAt a1 0)))) 58).2 0) (Int32.toNatClampNeg (f_X12_pleaAt a1 1)))) 45).2 0) a1)).2 0) 0) < (((g_X12_writesNumber (g_X12_writes (g_X12_writesNumber (g_X12_writes (g_X12_writesNumber (g_X12_writes (yS (g_X12_looks x a1) 12 0) 112) (((g_X12_writes (yS (g_X12_looks x a1) 12 0) 112).2 0) (Int32.toNatClampNeg (f_X12_pleaAt a1 0)))) 58) (((g_X12_writes (g_X12_writesNumber (g_X12_writes (yS (g_X12_looks x a1) 12 0) 112) (((g_X12_writes (yS (g_X12_looks x a1) 12 0) 112).2 0) (Int32.toNatClampNeg (f_X12_pleaAt a1 0)))) 58).2 0) (Int32.toNatClampNeg (f_X12_pleaAt a1 1)))) 45) (f_X12_until ((g_X12_writes (g_X12_writesNumber (g_X12_writes (g_X12_writesNumber (g_X12_writes (yS (g_X12_looks x a1) 12 0) 112) (((g_X12_writes (yS (g_X12_looks x a1) 12 0) 112).2 0) (Int32.toNatClampNeg (f_X12_pleaAt a1 0)))) 58) (((g_X12_writes (g_X12_writesNumber (g_X12_writes (yS (g_X12_looks x a1) 12 0) 112) (((g_X12_writes (yS (g_X12_looks x a1) 12 0) 112).2 0) (Int32.toNatClampNeg (f_X12_pleaAt a1 0)))) 58).2 0) (Int32.toNatClampNeg (f_X12_pleaAt a1 1)))) 45).2 0) a1)).2 0) (Int32.toNatClampNeg (f_X12_pleaAt a1 1)))) from b99)))))) (congrArg (fun z => kTp a9 (kHr z z9)) (Eq.symm (Eq.trans (if_neg (show ¬ ((f_X12_looks x a1) = 0) from b5)) (Eq.trans (if_neg (show ¬ ((f_X12_sitsAt ((g_X12_writesNumber (g_X12_writes (g_X12_writesNumber (g_X12_writes (g_X12_writesNumber (g_X12_writes (yS (g_X12_looks x a1) 12 0) 112) (((g_X12_writes (yS (g_X12_looks x a1) 12 0) 112).2 0) (Int32.toNatClampNeg (f_X12_pleaAt a1 0)))) 58) (((g_X12_writes (g_X12_writesNumber (g_X12_writes (yS (g_X12_looks x a1) 12 0) 112) (((g_X12_writes (yS (g_X12_looks x a1) 12 0) 112).2 0) (Int32.toNatClampNeg (f_X12_pleaAt a1 0)))) 58).2 0) (Int32.toNatClampNeg (f_X12_pleaAt a1 1)))) 45) (f_X12_until ((g_X12_writes (g_X12_writesNumber (g_X12_writes (g_X12_writesNumber (g_X12_writes (yS (g_X12_looks x a1) 12 0) 112) (((g_X12_writes (yS (g_X12_looks x a1) 12 0) 112).2 0) (Int32.toNatClampNeg (f_X12_pleaAt a1 0)))) 58) (((g_X12_writes (g_X12_writesNumber (g_X12_writes (yS (g_X12_looks x a1) 12 0) 112) (((g_X12_writes (yS (g_X12_looks x a1) 12 0) 112).2 0) (Int32.toNatClampNeg (f_X12_pleaAt a1 0)))) 58).2 0) (Int32.toNatClampNeg (f_X12_pleaAt a1 1)))) 45).2 0) a1)).2 0) (((g_X12_writesNumber (g_X12_writes (g_X12_writesNumber (g_X12_writes (g_X12_writesNumber (g_X12_writes (yS (g_X12_looks x a1) 12 0) 112) (((g_X12_writes (yS (g_X12_looks x a1) 12 0) 112).2 0) (Int32.toNatClampNeg (f_X12_pleaAt a1 0)))) 58) (((g_X12_writes (g_X12_writesNumber (g_X12_writes (yS (g_X12_looks x a1) 12 0) 112) (((g_X12_writes (yS (g_X12_looks x a1) 12 0) 112).2 0) (Int32.toNatClampNeg (f_X12_pleaAt a1 0)))) 58).2 0) (Int32.toNatClampNeg (f_X12_pleaAt a1 1)))) 45) (f_X12_until ((g_X12_writes (g_X12_writesNumber (g_X12_writes (g_X12_writesNumber (g_X12_writes (yS (g_X12_looks x a1) 12 0) 112) (((g_X12_writes (yS (g_X12_looks x a1) 12 0) 112).2 0) (Int32.toNatClampNeg (f_X12_pleaAt a1 0)))) 58) (((g_X12_writes (g_X12_writesNumber (g_X12_writes (yS (g_X12_looks x a1) 12 0) 112) (((g_X12_writes (yS (g_X12_looks x a1) 12 0) 112).2 0) (Int32.toNatClampNeg (f_X12_pleaAt a1 0)))) 58).2 0) (Int32.toNatClampNeg (f_X12_pleaAt a1 1)))) 45).2 0) a1)).2 0) 0)) = 0) from b80)) (if_neg (show ¬ ((((g_X12_writesNumber (g_X12_writes (g_X12_writesNumber (g_X12_writes (g_X12_writesNumber (g_X12_writes (yS (g_X12_looks x a1) 12 0) 112) (((g_X12_writes (yS (g_X12_looks x a1) 12 0) 112).2 0) (Int32.toNatClampNeg (f_X12_pleaAt a1 0)))) 58) (((g_X12_writes (g_X12_writesNumber (g_X12_writes (yS (g_X12_looks x a1) 12 0) 112) (((g_X12_writes (yS (g_X12_looks x a1) 12 0) 112).2 0) (Int32.toNatClampNeg (f_X12_pleaAt a1 0)))) 58).2 0) (Int32.toNatClampNeg (f_X12_pleaAt a1 1)))) 45) (f_X12_until ((g_X12_writes (g_X12_writesNumber (g_X12_writes (g_X12_writesNumber (g_X12_writes (yS (g_X12_looks x a1) 12 0) 112) (((g_X12_writes (yS (g_X12_looks x a1) 12 0) 112).2 0) (Int32.toNatClampNeg (f_X12_pleaAt a1 0)))) 58) (((g_X12_writes (g_X12_writesNumber (g_X12_writes (yS (g_X12_looks x a1) 12 0) 112) (((g_X12_writes (yS (g_X12_looks x a1) 12 0) 112).2 0) (Int32.toNatClampNeg (f_X12_pleaAt a1 0)))) 58).2 0) (Int32.toNatClampNeg (f_X12_pleaAt a1 1)))) 45).2 0) a1)).2 0) 0) < (((g_X12_writesNumber (g_X12_writes (g_X12_writesNumber (g_X12_writes (g_X12_writesNumber (g_X12_writes (yS (g_X12_looks x a1) 12 0) 112) (((g_X12_writes (yS (g_X12_looks x a1) 12 0) 112).2 0) (Int32.toNatClampNeg (f_X12_pleaAt a1 0)))) 58) (((g_X12_writes (g_X12_writesNumber (g_X12_writes (yS (g_X12_looks x a1) 12 0) 112) (((g_X12_writes (yS (g_X12_looks x a1) 12 0) 112).2 0) (Int32.toNatClampNeg (f_X12_pleaAt a1 0)))) 58).2 0) (Int32.toNatClampNeg (f_X12_pleaAt a1 1)))) 45) (f_X12_until ((g_X12_writes (g_X12_writesNumber (g_X12_writes (g_X12_writesNumber (g_X12_writes (yS (g_X12_looks x a1) 12 0) 112) (((g_X12_writes (yS (g_X12_looks x a1) 12 0) 112).2 0) (Int32.toNatClampNeg (f_X12_pleaAt a1 0)))) 58) (((g_X12_writes (g_X12_writesNumber (g_X12_writes (yS (g_X12_looks x a1) 12 0) 112) (((g_X12_writes (yS (g_X12_looks x a1) 12 0) 112).2 0) (Int32.toNatClampNeg (f_X12_pleaAt a1 0)))) 58).2 0) (Int32.toNatClampNeg (f_X12_pleaAt a1 1)))) 45).2 0) a1)).2 0) (Int32.toNatClampNeg (f_X12_pleaAt a1 1)))) from b99))))))
  · refine k_iconst (v := 0) dX12_describePlea_8 (rfl : 8 + 1 = 9) (by decide) ?_
    refine k_iret rfl rfl dX12_describePlea_9 (Nat.le_of_ble_eq_true rfl) (Nat.le_of_ble_eq_true rfl) ?_
    subst hg1
    exact kRt_of (congrArg (fun z => some (Value.int z)) (Eq.symm (if_pos (show (f_X12_looks x a1) = 0 from b5)))) (congrArg (fun z => kTp a9 (kHr z z9)) (Eq.symm (if_pos (show (f_X12_looks x a1) = 0 from b5))))
theorem cop_c {v : Nat → Int32} {j : Nat} (hv : kMv v) (hj : j < 8) : kC64 (f_X12_cellOfParty v (nI j)) := by
  rw [cop_of hj]
  exact hv.2.2.2.2.2 j hj
def icL (v : Nat → Int32) : Nat → Nat → (Int32) ⊕ (Int32)
  | 0, j => .inr (nI j)
  | k + 1, j => if (f_X12_isTree v (f_X12_cellOfParty v (nI j))) = 0 then (if (f_X12_cellOfParty v (nI j)) = (v 3) then (.inl 0) else (icL v k (j + 1))) else (.inl 0)
set_option maxRecDepth 100000 in
set_option maxHeartbeats 4000000 in
theorem licL {x : kY} {a9 : kH} {z9 : kE × kE} {Q : kQ}  (hv : kMv (x.2 0)) : ∀ (k : Nat) (j : Nat), j + k = (Int32.toNatClampNeg ((x.2 0) 6)) → (∀ y, (icL (x.2 0) k j) = .inl y → Q (.inl (some (.int y))) (kTp a9 (kHr x z9)) 130) → (∀ y, (icL (x.2 0) k j) = .inr y → kEv kX12_isConsistent (kRm kX12_isConsistent 0 0) (kFm false 0 0 (Q)) false 52 [.ref 116, .int y] [] (kTp a9 (kHr x z9)) 130 0 0) → kEv kX12_isConsistent (kRm kX12_isConsistent 0 0) (kFm false 0 0 (Q)) false 7 [.ref 116, .int (nI j)] [] (kTp a9 (kHr x z9)) 130 0 0 := by
  intro k
  induction k with
  | zero =>
    intro j hj hr hx
    refine k_iload_n (i := 1) dX12_isConsistent_7 (rfl : 7 + 1 = 8) rfl rfl ?_
    refine k_aload_n (i := 0) dX12_isConsistent_8 (rfl : 8 + 1 = 9) rfl rfl ?_
    refine k_get 12 7 fg_X12_16 dX12_isConsistent_9 (rfl : 9 + 3 = 12) (Nat.le_of_ble_eq_true rfl) rfl rfl ?_
    refine k_bipush (v := 6) dX12_isConsistent_12 (rfl : 12 + 2 = 14) (by decide) ?_
    refine k_ialdc (c := 6) (by decide) dX12_isConsistent_14 (rfl : 14 + 1 = 15) (Nat.le_of_ble_eq_true rfl) rfl (vp_in_iff.mpr (by decide)) ?_
    refine k_icmp_ge (tgt := 52) dX12_isConsistent_15 (rfl : 15 + 3 = 18) (by decide) (fun b15 => ?_) (fun b15 => by exact absurd (cl_le (by omega)) b15)
    exact hx _ (by rw [icL])
  | succ k ih =>
    intro j hj hr hx
    refine k_iload_n (i := 1) dX12_isConsistent_7 (rfl : 7 + 1 = 8) rfl rfl ?_
    refine k_aload_n (i := 0) dX12_isConsistent_8 (rfl : 8 + 1 = 9) rfl rfl ?_
    refine k_get 12 7 fg_X12_16 dX12_isConsistent_9 (rfl : 9 + 3 = 12) (Nat.le_of_ble_eq_true rfl) rfl rfl ?_
    refine k_bipush (v := 6) dX12_isConsistent_12 (rfl : 12 + 2 = 14) (by decide) ?_
    refine k_ialdc (c := 6) (by decide) dX12_isConsistent_14 (rfl : 14 + 1 = 15) (Nat.le_of_ble_eq_true rfl) rfl (vp_in_iff.mpr (by decide)) ?_
    refine k_icmp_ge (tgt := 52) dX12_isConsistent_15 (rfl : 15 + 3 = 18) (by decide) (fun b15 => by exact absurd b15 (cl_nle (by omega))) (fun b15 => ?_)
    refine k_aload_n (i := 0) dX12_isConsistent_18 (rfl : 18 + 1 = 19) rfl rfl ?_
    refine k_aload_n (i := 0) dX12_isConsistent_19 (rfl : 19 + 1 = 20) rfl rfl ?_
    refine k_iload_n (i := 1) dX12_isConsistent_20 (rfl : 20 + 1 = 21) rfl rfl ?_
    refine k_callVd1 cv_X12_74 ⟨Nat.le_of_ble_eq_true rfl, Nat.le_of_ble_eq_true rfl⟩ (m_X12_cellOfParty ⟨j, by have := mv_n hv; omega, rfl⟩) dX12_isConsistent_21 (rfl : 21 + 3 = 24) (Nat.le_of_ble_eq_true rfl) rfl rfl rfl ⟨Nat.le_of_ble_eq_true rfl, Nat.le_of_ble_eq_true rfl⟩ ?_
    refine k_callVd1 cv_X12_106 ⟨Nat.le_of_ble_eq_true rfl, Nat.le_of_ble_eq_true rfl⟩ (m_X12_isTree (cop_c hv (by have := mv_n hv; omega))) dX12_isConsistent_24 (rfl : 24 + 3 = 27) (Nat.le_of_ble_eq_true rfl) rfl rfl rfl ⟨Nat.le_of_ble_eq_true rfl, Nat.le_of_ble_eq_true rfl⟩ ?_
    refine k_if_ne (tgt := 44) dX12_isConsistent_27 (rfl : 27 + 3 = 30) (by decide) (fun b27 => ?_) (fun b27 => ?_)
    · refine k_iconst (v := 0) dX12_isConsistent_44 (rfl : 44 + 1 = 45) (by decide) ?_
      refine k_iret rfl rfl dX12_isConsistent_45 (Nat.le_of_ble_eq_true rfl) (Nat.le_of_ble_eq_true rfl) ?_
      exact hr _ (by rw [icL, if_neg (show ¬ ((f_X12_isTree (x.2 0) (f_X12_cellOfParty (x.2 0) (nI j))) = 0) from b27)])
    · refine k_aload_n (i := 0) dX12_isConsistent_30 (rfl : 30 + 1 = 31) rfl rfl ?_
      refine k_iload_n (i := 1) dX12_isConsistent_31 (rfl : 31 + 1 = 32) rfl rfl ?_
      refine k_callVd1 cv_X12_74 ⟨Nat.le_of_ble_eq_true rfl, Nat.le_of_ble_eq_true rfl⟩ (m_X12_cellOfParty ⟨j, by have := mv_n hv; omega, rfl⟩) dX12_isConsistent_32 (rfl : 32 + 3 = 35) (Nat.le_of_ble_eq_true rfl) rfl rfl rfl ⟨Nat.le_of_ble_eq_true rfl, Nat.le_of_ble_eq_true rfl⟩ ?_
      refine k_aload_n (i := 0) dX12_isConsistent_35 (rfl : 35 + 1 = 36) rfl rfl ?_
      refine k_get 12 7 fg_X12_16 dX12_isConsistent_36 (rfl : 36 + 3 = 39) (Nat.le_of_ble_eq_true rfl) rfl rfl ?_
      refine k_iconst (v := 3) dX12_isConsistent_39 (rfl : 39 + 1 = 40) (by decide) ?_
      refine k_ialdc (c := 3) (by decide) dX12_isConsistent_40 (rfl : 40 + 1 = 41) (Nat.le_of_ble_eq_true rfl) rfl (vp_in_iff.mpr (by decide)) ?_
      refine k_icmp_ne (tgt := 46) dX12_isConsistent_41 (rfl : 41 + 3 = 44) (by decide) (fun b41 => ?_) (fun b41 => ?_)
      · refine k_iinc (i := 1) (v := (nI (j + 1))) dX12_isConsistent_46 (rfl : 46 + 3 = 49) rfl (Nat.le_of_ble_eq_true rfl) (nI_1 _) ?_
        refine k_ls (ls2 := [.ref 116, .int (nI (j + 1))]) rfl ?_
        refine k_goto (tgt := 7) dX12_isConsistent_49 (by decide) ?_
        exact ih (j + 1) (by omega) (fun y e => hr y (by rw [icL, if_pos (show (f_X12_isTree (x.2 0) (f_X12_cellOfParty (x.2 0) (nI j))) = 0 from b27), if_neg (show ¬ ((f_X12_cellOfParty (x.2 0) (nI j)) = ((x.2 0) 3)) from b41)]; exact e)) (fun y e => hx y (by rw [icL, if_pos (show (f_X12_isTree (x.2 0) (f_X12_cellOfParty (x.2 0) (nI j))) = 0 from b27), if_neg (show ¬ ((f_X12_cellOfParty (x.2 0) (nI j)) = ((x.2 0) 3)) from b41)]; exact e))
      · refine k_iconst (v := 0) dX12_isConsistent_44 (rfl : 44 + 1 = 45) (by decide) ?_
        refine k_iret rfl rfl dX12_isConsistent_45 (Nat.le_of_ble_eq_true rfl) (Nat.le_of_ble_eq_true rfl) ?_
        exact hr _ (by rw [icL, if_pos (show (f_X12_isTree (x.2 0) (f_X12_cellOfParty (x.2 0) (nI j))) = 0 from b27), if_pos (show (f_X12_cellOfParty (x.2 0) (nI j)) = ((x.2 0) 3) from b41)])
def f_X12_isConsistent (x : kY)  : Int32 := Sum.elim (fun w7 => w7) (fun w7 => if (f_X12_isTree (x.2 0) ((x.2 0) 3)) = 0 then 1 else 0) (icL (x.2 0) (Int32.toNatClampNeg ((x.2 0) 6)) 0)
def g_X12_isConsistent (x : kY)  : kY := Sum.elim (fun w7 => (yS x 0 0)) (fun w7 => if (f_X12_isTree (x.2 0) ((x.2 0) 3)) = 0 then (yS x 0 0) else (yS x 0 0)) (icL (x.2 0) (Int32.toNatClampNeg ((x.2 0) 6)) 0)
set_option maxRecDepth 100000 in
set_option maxHeartbeats 4000000 in
theorem m_X12_isConsistent {x : kY} {a9 : kH} {z9 : kE × kE} (hv : kMv (x.2 0)) : kMet kX12_isConsistent false 0 0 [.ref 116] (kTp a9 (kHr x z9)) 130 (kRt (some (.int (f_X12_isConsistent x ))) (kTp a9 (kHr (g_X12_isConsistent x ) z9)) 130) := by
  refine kMet.in (by decide) rfl rfl _ rfl ?_
  refine k_aload_n (i := 0) dX12_isConsistent_0 (rfl : 0 + 1 = 1) rfl rfl ?_
  refine k_iconst (v := 0) dX12_isConsistent_1 (rfl : 1 + 1 = 2) (by decide) ?_
  refine k_put 12 0 fp_X12_50 dX12_isConsistent_2 (rfl : 2 + 3 = 5) (Nat.le_of_ble_eq_true rfl) rfl (Nat.le_of_ble_eq_true rfl) rfl rfl ?_
  refine kf_Y0 (v := 0) rfl ?_
  refine k_iconst (v := 0) dX12_isConsistent_5 (rfl : 5 + 1 = 6) (by decide) ?_
  refine k_istore_n (i := 1) dX12_isConsistent_6 (rfl : 6 + 1 = 7) rfl (Nat.le_of_ble_eq_true rfl) ?_
  refine k_ls (ls2 := [.ref 116, .int 0]) rfl ?_
  refine licL (x := (yS x 0 0)) hv (Int32.toNatClampNeg ((x.2 0) 6)) 0 (Nat.zero_add _) (fun w7 hw7 => ?_) (fun w7 hw7 => ?_)
  · exact kRt_of (congrArg (fun z => some (Value.int z)) (Eq.symm (congrArg (Sum.elim _ _) hw7))) (congrArg (fun z => kTp a9 (kHr z z9)) (Eq.symm (congrArg (Sum.elim _ _) hw7)))
  · refine k_aload_n (i := 0) dX12_isConsistent_52 (rfl : 52 + 1 = 53) rfl rfl ?_
    refine k_aload_n (i := 0) dX12_isConsistent_53 (rfl : 53 + 1 = 54) rfl rfl ?_
    refine k_get 12 7 fg_X12_16 dX12_isConsistent_54 (rfl : 54 + 3 = 57) (Nat.le_of_ble_eq_true rfl) rfl rfl ?_
    refine k_iconst (v := 3) dX12_isConsistent_57 (rfl : 57 + 1 = 58) (by decide) ?_
    refine k_ialdc (c := 3) (by decide) dX12_isConsistent_58 (rfl : 58 + 1 = 59) (Nat.le_of_ble_eq_true rfl) rfl (vp_in_iff.mpr (by decide)) ?_
    refine k_callVd1 cv_X12_106 ⟨Nat.le_of_ble_eq_true rfl, Nat.le_of_ble_eq_true rfl⟩ (m_X12_isTree (mv_b hv)) dX12_isConsistent_59 (rfl : 59 + 3 = 62) (Nat.le_of_ble_eq_true rfl) rfl rfl rfl ⟨Nat.le_of_ble_eq_true rfl, Nat.le_of_ble_eq_true rfl⟩ ?_
    refine k_if_ne (tgt := 69) dX12_isConsistent_62 (rfl : 62 + 3 = 65) (by decide) (fun b62 => ?_) (fun b62 => ?_)
    · refine k_iconst (v := 0) dX12_isConsistent_69 (rfl : 69 + 1 = 70) (by decide) ?_
      refine k_iret rfl rfl dX12_isConsistent_70 (Nat.le_of_ble_eq_true rfl) (Nat.le_of_ble_eq_true rfl) ?_
      exact kRt_of (congrArg (fun z => some (Value.int z)) (Eq.symm (Eq.trans (congrArg (Sum.elim _ _) hw7) (if_neg (show ¬ ((f_X12_isTree (x.2 0) ((x.2 0) 3)) = 0) from b62))))) (congrArg (fun z => kTp a9 (kHr z z9)) (Eq.symm (Eq.trans (congrArg (Sum.elim _ _) hw7) (if_neg (show ¬ ((f_X12_isTree (x.2 0) ((x.2 0) 3)) = 0) from b62)))))
    · refine k_iconst (v := 1) dX12_isConsistent_65 (rfl : 65 + 1 = 66) (by decide) ?_
      refine k_goto (tgt := 70) dX12_isConsistent_66 (by decide) ?_
      refine k_iret rfl rfl dX12_isConsistent_70 (Nat.le_of_ble_eq_true rfl) (Nat.le_of_ble_eq_true rfl) ?_
      exact kRt_of (congrArg (fun z => some (Value.int z)) (Eq.symm (Eq.trans (congrArg (Sum.elim _ _) hw7) (if_pos (show (f_X12_isTree (x.2 0) ((x.2 0) 3)) = 0 from b62))))) (congrArg (fun z => kTp a9 (kHr z z9)) (Eq.symm (Eq.trans (congrArg (Sum.elim _ _) hw7) (if_pos (show (f_X12_isTree (x.2 0) ((x.2 0) 3)) = 0 from b62)))))
theorem tx_in {v : Int32} (h : ∃ n, n ≤ 60 ∧ v = nI n) (h2 : ¬ v = 60) : vp_in v 60 := by
  obtain ⟨n, hn, rfl⟩ := h
  refine vp_in_nI ?_ (by omega)
  rcases Nat.lt_or_ge n 60 with q | q
  · exact q
  · exact absurd (show nI n = 60 by rw [show n = 60 by omega]; rfl) h2
theorem nar_c {v : Int32} : narrow .char (.int (Int32.toUInt32 v % 65536).toInt32) = .int (Int32.toUInt32 v % 65536).toInt32 := by
  show Value.int (Int32.toUInt32 v % 65536).toInt32.toUInt32.toUInt16.toUInt32.toInt32 = _
  congr 2
  rw [UInt32.toUInt32_toInt32]
  apply UInt32.toNat.inj
  simp [UInt32.toNat_mod]
theorem ln_in2 {x : kY} {a : Int32} (h : kLn2 x 40) (hi : ¬ f_X12_isIn a 0 (x.1 12 - 1) = 0) : vp_in a 40 := by
  obtain ⟨n, hn, e⟩ := h
  unfold f_X12_isIn at hi
  by_cases h1 : a < 0
  · rw [if_pos h1] at hi; exact absurd rfl hi
  rw [if_neg h1] at hi
  by_cases h2 : x.1 12 - 1 < a
  · rw [if_pos h2] at hi; exact absurd rfl hi
  obtain ⟨k, hk, rfl⟩ := nI_of h1
  rw [e] at h2
  refine vp_in_nI ?_ (by omega)
  rcases Nat.eq_zero_or_pos n with q | q
  · subst q
    exfalso
    refine h2 ?_
    rw [Int32.lt_iff_toInt_lt, nI_toInt hk]
    have e1 : (nI 0 - 1).toInt = -1 := by decide
    omega
  · obtain ⟨m, rfl⟩ : ∃ m, n = m + 1 := ⟨n - 1, by omega⟩
    rw [nI_pred] at h2
    rcases Nat.lt_or_ge k 40 with q2 | q2
    · exact q2
    · exact absurd (nI_lt (a := m) (b := k) (by omega) hk) h2
def f_X12_append (x : kY) (a1 : Int32) : Int32 := if (f_X12_isIn a1 32 126) = 0 then 0 else (if (x.1 9) = 60 then 0 else ((x.1 9) + 1))
def g_X12_append (x : kY) (a1 : Int32) : kY := if (f_X12_isIn a1 32 126) = 0 then (yS x 0 1) else (if (x.1 9) = 60 then (yS x 0 2) else (yS (yR (yS x 0 0) 6 (upd (x.2 6) (Int32.toNatClampNeg (x.1 9)) a1)) 9 ((x.1 9) + 1)))
set_option maxRecDepth 100000 in
set_option maxHeartbeats 4000000 in
theorem m_X12_append {x : kY} {a9 : kH} {z9 : kE × kE} {a1 : Int32} (ht : ∃ n, n ≤ 60 ∧ x.1 9 = nI n) : kMet kX12_append false 0 0 [.ref 116, .int a1] (kTp a9 (kHr x z9)) 130 (kRt (some (.int (f_X12_append x a1))) (kTp a9 (kHr (g_X12_append x a1) z9)) 130) := by
  refine kMet.in (by decide) rfl rfl _ rfl ?_
  refine k_aload_n (i := 0) dX12_append_0 (rfl : 0 + 1 = 1) rfl rfl ?_
  refine k_iload_n (i := 1) dX12_append_1 (rfl : 1 + 1 = 2) rfl rfl ?_
  refine k_bipush (v := 32) dX12_append_2 (rfl : 2 + 2 = 4) (by decide) ?_
  refine k_bipush (v := 126) dX12_append_4 (rfl : 4 + 2 = 6) (by decide) ?_
  refine k_callSd3 cv_X12_70 ⟨Nat.le_of_ble_eq_true rfl, Nat.le_of_ble_eq_true rfl⟩ (m_X12_isIn) dX12_append_6 (rfl : 6 + 3 = 9) rfl ⟨Nat.le_of_ble_eq_true rfl, Nat.le_of_ble_eq_true rfl⟩ ?_
  refine k_if_ne (tgt := 16) dX12_append_9 (rfl : 9 + 3 = 12) (by decide) (fun b9 => ?_) (fun b9 => ?_)
  · refine k_aload_n (i := 0) dX12_append_16 (rfl : 16 + 1 = 17) rfl rfl ?_
    refine k_get 12 20 fg_X12_228 dX12_append_17 (rfl : 17 + 3 = 20) (Nat.le_of_ble_eq_true rfl) rfl rfl ?_
    refine k_bipush (v := 60) dX12_append_20 (rfl : 20 + 2 = 22) (by decide) ?_
    refine k_icmp_ne (tgt := 29) dX12_append_22 (rfl : 22 + 3 = 25) (by decide) (fun b22 => ?_) (fun b22 => ?_)
    · refine k_iconst (v := 0) dX12_append_29 (rfl : 29 + 1 = 30) (by decide) ?_
      refine k_put 12 0 fp_X12_50 dX12_append_30 (rfl : 30 + 3 = 33) (Nat.le_of_ble_eq_true rfl) rfl (Nat.le_of_ble_eq_true rfl) rfl rfl ?_
      refine kf_Y0 (v := 0) rfl ?_
      refine k_aload_n (i := 0) dX12_append_33 (rfl : 33 + 1 = 34) rfl rfl ?_
      refine k_get 12 0 fg_X12_50 dX12_append_34 (rfl : 34 + 3 = 37) (Nat.le_of_ble_eq_true rfl) rfl rfl ?_
      refine k_if_eq (tgt := 42) dX12_append_37 (rfl : 37 + 3 = 40) (by decide) (fun b37 => ?_) (fun b37 => by exact absurd (by first | decide | (show (0 : Int32) = 0; decide)) b37)
      refine k_aload_n (i := 0) dX12_append_42 (rfl : 42 + 1 = 43) rfl rfl ?_
      refine k_get 12 15 fg_X12_35 dX12_append_43 (rfl : 43 + 3 = 46) (Nat.le_of_ble_eq_true rfl) rfl rfl ?_
      refine k_aload_n (i := 0) dX12_append_46 (rfl : 46 + 1 = 47) rfl rfl ?_
      refine k_get 12 20 fg_X12_228 dX12_append_47 (rfl : 47 + 3 = 50) (Nat.le_of_ble_eq_true rfl) rfl rfl ?_
      refine k_iload_n (i := 1) dX12_append_50 (rfl : 50 + 1 = 51) rfl rfl ?_
      refine k_iast dX12_append_51 (rfl : 51 + 1 = 52) (Nat.le_of_ble_eq_true rfl) rfl (tx_in ht b22) ?_
      refine kf_Z6 (f := (upd (x.2 6) (Int32.toNatClampNeg (x.1 9)) a1)) rfl ?_
      refine k_aload_n (i := 0) dX12_append_52 (rfl : 52 + 1 = 53) rfl rfl ?_
      refine k_dup dX12_append_53 (rfl : 53 + 1 = 54) rfl ?_
      refine k_get 12 20 fg_X12_228 dX12_append_54 (rfl : 54 + 3 = 57) (Nat.le_of_ble_eq_true rfl) rfl rfl ?_
      refine k_iconst (v := 1) dX12_append_57 (rfl : 57 + 1 = 58) (by decide) ?_
      refine k_iadd dX12_append_58 (rfl : 58 + 1 = 59) ?_
      refine k_put 12 20 fp_X12_228 dX12_append_59 (rfl : 59 + 3 = 62) (Nat.le_of_ble_eq_true rfl) rfl (Nat.le_of_ble_eq_true rfl) rfl rfl ?_
      refine kf_Y9 (v := ((x.1 9) + 1)) rfl ?_
      refine k_aload_n (i := 0) dX12_append_62 (rfl : 62 + 1 = 63) rfl rfl ?_
      refine k_get 12 20 fg_X12_228 dX12_append_63 (rfl : 63 + 3 = 66) (Nat.le_of_ble_eq_true rfl) rfl rfl ?_
      refine k_iret rfl rfl dX12_append_66 (Nat.le_of_ble_eq_true rfl) (Nat.le_of_ble_eq_true rfl) ?_
      exact kRt_of (congrArg (fun z => some (Value.int z)) (Eq.symm (Eq.trans (if_neg (show ¬ ((f_X12_isIn a1 32 126) = 0) from b9)) (if_neg (show ¬ ((x.1 9) = 60) from b22))))) (congrArg (fun z => kTp a9 (kHr z z9)) (Eq.symm (Eq.trans (if_neg (show ¬ ((f_X12_isIn a1 32 126) = 0) from b9)) (if_neg (show ¬ ((x.1 9) = 60) from b22)))))
    · refine k_iconst (v := 2) dX12_append_25 (rfl : 25 + 1 = 26) (by decide) ?_
      refine k_goto (tgt := 30) dX12_append_26 (by decide) ?_
      refine k_put 12 0 fp_X12_50 dX12_append_30 (rfl : 30 + 3 = 33) (Nat.le_of_ble_eq_true rfl) rfl (Nat.le_of_ble_eq_true rfl) rfl rfl ?_
      refine kf_Y0 (v := 2) rfl ?_
      refine k_aload_n (i := 0) dX12_append_33 (rfl : 33 + 1 = 34) rfl rfl ?_
      refine k_get 12 0 fg_X12_50 dX12_append_34 (rfl : 34 + 3 = 37) (Nat.le_of_ble_eq_true rfl) rfl rfl ?_
      refine k_if_eq (tgt := 42) dX12_append_37 (rfl : 37 + 3 = 40) (by decide) (fun b37 => by exact absurd b37 (by first | decide | (show ¬ (2 : Int32) = 0; decide))) (fun b37 => ?_)
      refine k_iconst (v := 0) dX12_append_40 (rfl : 40 + 1 = 41) (by decide) ?_
      refine k_iret rfl rfl dX12_append_41 (Nat.le_of_ble_eq_true rfl) (Nat.le_of_ble_eq_true rfl) ?_
      exact kRt_of (congrArg (fun z => some (Value.int z)) (Eq.symm (Eq.trans (if_neg (show ¬ ((f_X12_isIn a1 32 126) = 0) from b9)) (if_pos (show (x.1 9) = 60 from b22))))) (congrArg (fun z => kTp a9 (kHr z z9)) (Eq.symm (Eq.trans (if_neg (show ¬ ((f_X12_isIn a1 32 126) = 0) from b9)) (if_pos (show (x.1 9) = 60 from b22)))))
  · refine k_iconst (v := 1) dX12_append_12 (rfl : 12 + 1 = 13) (by decide) ?_
    refine k_goto (tgt := 30) dX12_append_13 (by decide) ?_
    refine k_put 12 0 fp_X12_50 dX12_append_30 (rfl : 30 + 3 = 33) (Nat.le_of_ble_eq_true rfl) rfl (Nat.le_of_ble_eq_true rfl) rfl rfl ?_
    refine kf_Y0 (v := 1) rfl ?_
    refine k_aload_n (i := 0) dX12_append_33 (rfl : 33 + 1 = 34) rfl rfl ?_
    refine k_get 12 0 fg_X12_50 dX12_append_34 (rfl : 34 + 3 = 37) (Nat.le_of_ble_eq_true rfl) rfl rfl ?_
    refine k_if_eq (tgt := 42) dX12_append_37 (rfl : 37 + 3 = 40) (by decide) (fun b37 => by exact absurd b37 (by first | decide | (show ¬ (1 : Int32) = 0; decide))) (fun b37 => ?_)
    refine k_iconst (v := 0) dX12_append_40 (rfl : 40 + 1 = 41) (by decide) ?_
    refine k_iret rfl rfl dX12_append_41 (Nat.le_of_ble_eq_true rfl) (Nat.le_of_ble_eq_true rfl) ?_
    exact kRt_of (congrArg (fun z => some (Value.int z)) (Eq.symm (if_pos (show (f_X12_isIn a1 32 126) = 0 from b9)))) (congrArg (fun z => kTp a9 (kHr z z9)) (Eq.symm (if_pos (show (f_X12_isIn a1 32 126) = 0 from b9))))
def f_X12_lineAt (x : kY) (a1 : Int32) : Int32 := if (f_X12_isIn a1 0 ((x.1 12) - 1)) = 0 then 97 else ((Int32.toUInt32 ((x.2 7) (Int32.toNatClampNeg a1)) % 65536).toInt32)
def g_X12_lineAt (x : kY) (a1 : Int32) : kY := if (f_X12_isIn a1 0 ((x.1 12) - 1)) = 0 then (yS x 0 1) else (yS x 0 0)
set_option maxRecDepth 100000 in
set_option maxHeartbeats 4000000 in
theorem m_X12_lineAt {x : kY} {a9 : kH} {z9 : kE × kE} {a1 : Int32} (hl : kLn2 x 40) : kMet kX12_lineAt false 0 0 [.ref 116, .int a1] (kTp a9 (kHr x z9)) 130 (kRt (some (.int (f_X12_lineAt x a1))) (kTp a9 (kHr (g_X12_lineAt x a1) z9)) 130) := by
  refine kMet.in (by decide) rfl rfl _ rfl ?_
  refine k_aload_n (i := 0) dX12_lineAt_0 (rfl : 0 + 1 = 1) rfl rfl ?_
  refine k_iload_n (i := 1) dX12_lineAt_1 (rfl : 1 + 1 = 2) rfl rfl ?_
  refine k_iconst (v := 0) dX12_lineAt_2 (rfl : 2 + 1 = 3) (by decide) ?_
  refine k_aload_n (i := 0) dX12_lineAt_3 (rfl : 3 + 1 = 4) rfl rfl ?_
  refine k_get 12 23 fg_X12_268 dX12_lineAt_4 (rfl : 4 + 3 = 7) (Nat.le_of_ble_eq_true rfl) rfl rfl ?_
  refine k_iconst (v := 1) dX12_lineAt_7 (rfl : 7 + 1 = 8) (by decide) ?_
  refine k_isub dX12_lineAt_8 (rfl : 8 + 1 = 9) ?_
  refine k_callSd3 cv_X12_70 ⟨Nat.le_of_ble_eq_true rfl, Nat.le_of_ble_eq_true rfl⟩ (m_X12_isIn) dX12_lineAt_9 (rfl : 9 + 3 = 12) rfl ⟨Nat.le_of_ble_eq_true rfl, Nat.le_of_ble_eq_true rfl⟩ ?_
  refine k_if_eq (tgt := 19) dX12_lineAt_12 (rfl : 12 + 3 = 15) (by decide) (fun b12 => ?_) (fun b12 => ?_)
  · refine k_iconst (v := 1) dX12_lineAt_19 (rfl : 19 + 1 = 20) (by decide) ?_
    refine k_put 12 0 fp_X12_50 dX12_lineAt_20 (rfl : 20 + 3 = 23) (Nat.le_of_ble_eq_true rfl) rfl (Nat.le_of_ble_eq_true rfl) rfl rfl ?_
    refine kf_Y0 (v := 1) rfl ?_
    refine k_aload_n (i := 0) dX12_lineAt_23 (rfl : 23 + 1 = 24) rfl rfl ?_
    refine k_get 12 0 fg_X12_50 dX12_lineAt_24 (rfl : 24 + 3 = 27) (Nat.le_of_ble_eq_true rfl) rfl rfl ?_
    refine k_if_ne (tgt := 40) dX12_lineAt_27 (rfl : 27 + 3 = 30) (by decide) (fun b27 => ?_) (fun b27 => by exact absurd b27 (by first | decide | (show ¬ (1 : Int32) = 0; decide)))
    refine k_bipush (v := 97) dX12_lineAt_40 (rfl : 40 + 2 = 42) (by decide) ?_
    refine k_iret rfl (by first | exact nar_c | rfl) dX12_lineAt_42 (Nat.le_of_ble_eq_true rfl) (Nat.le_of_ble_eq_true rfl) ?_
    exact kRt_of (congrArg (fun z => some (Value.int z)) (Eq.symm (if_pos (show (f_X12_isIn a1 0 ((x.1 12) - 1)) = 0 from b12)))) (congrArg (fun z => kTp a9 (kHr z z9)) (Eq.symm (if_pos (show (f_X12_isIn a1 0 ((x.1 12) - 1)) = 0 from b12))))
  · refine k_iconst (v := 0) dX12_lineAt_15 (rfl : 15 + 1 = 16) (by decide) ?_
    refine k_goto (tgt := 20) dX12_lineAt_16 (by decide) ?_
    refine k_put 12 0 fp_X12_50 dX12_lineAt_20 (rfl : 20 + 3 = 23) (Nat.le_of_ble_eq_true rfl) rfl (Nat.le_of_ble_eq_true rfl) rfl rfl ?_
    refine kf_Y0 (v := 0) rfl ?_
    refine k_aload_n (i := 0) dX12_lineAt_23 (rfl : 23 + 1 = 24) rfl rfl ?_
    refine k_get 12 0 fg_X12_50 dX12_lineAt_24 (rfl : 24 + 3 = 27) (Nat.le_of_ble_eq_true rfl) rfl rfl ?_
    refine k_if_ne (tgt := 40) dX12_lineAt_27 (rfl : 27 + 3 = 30) (by decide) (fun b27 => by exact absurd (by first | decide | (show (0 : Int32) = 0; decide)) b27) (fun b27 => ?_)
    refine k_aload_n (i := 0) dX12_lineAt_30 (rfl : 30 + 1 = 31) rfl rfl ?_
    refine k_get 12 16 fg_X12_38 dX12_lineAt_31 (rfl : 31 + 3 = 34) (Nat.le_of_ble_eq_true rfl) rfl rfl ?_
    refine k_iload_n (i := 1) dX12_lineAt_34 (rfl : 34 + 1 = 35) rfl rfl ?_
    refine k_iald dX12_lineAt_35 (rfl : 35 + 1 = 36) (Nat.le_of_ble_eq_true rfl) rfl (ln_in2 hl b12) ?_
    refine k_i2c dX12_lineAt_36 (rfl : 36 + 1 = 37) ?_
    refine k_goto (tgt := 42) dX12_lineAt_37 (by decide) ?_
    refine k_iret rfl (by first | exact nar_c | rfl) dX12_lineAt_42 (Nat.le_of_ble_eq_true rfl) (Nat.le_of_ble_eq_true rfl) ?_
    exact kRt_of (congrArg (fun z => some (Value.int z)) (Eq.symm (if_neg (show ¬ ((f_X12_isIn a1 0 ((x.1 12) - 1)) = 0) from b12)))) (congrArg (fun z => kTp a9 (kHr z z9)) (Eq.symm (if_neg (show ¬ ((f_X12_isIn a1 0 ((x.1 12) - 1)) = 0) from b12))))
