theorem c64_64 {a : Int32} (h : kC64 a) : vp_in a 64 := by
  obtain ⟨n, hn, rfl⟩ := h
  exact vp_in_nI hn (by omega)
/-- how many of the first n are not marked -/
def muC (f : Nat → Int32) : Nat → Nat
  | 0 => 0
  | n + 1 => muC f n + if f n = 1 then 0 else 1
theorem mu_le {f : Nat → Int32} {n : Nat} : muC f n ≤ n := by
  induction n with
  | zero => exact Nat.le_refl _
  | succ n ih =>
    rw [muC]
    split <;> omega
theorem mu_un {f : Nat → Int32} {q : Nat} {v : Int32} {n : Nat} (h : n ≤ q) : muC (upd f q v) n = muC f n := by
  induction n with
  | zero => rfl
  | succ n ih => rw [muC, muC, ih (by omega), pk_un (by omega)]
theorem mu_up {f : Nat → Int32} {q : Nat} (hf : ¬ f q = 1) {n : Nat} (h : q < n) : muC (upd f q 1) n + 1 = muC f n := by
  induction n with
  | zero => omega
  | succ n ih =>
    rw [muC, muC]
    by_cases e : q = n
    · subst e
      rw [mu_un (Nat.le_refl _), pk_us, if_pos rfl, if_neg hf]
    · rw [pk_un (fun q2 => e q2.symm)]
      have := ih (by omega)
      omega
def rmI (a : Int32) (b : Int32) : Nat → kY → Nat → kY
  | 0, x, j => x
  | k + 1, x, j => if (nI j) = ((8 * b) + a) then (rmI a b k (yR x 5 (upd (x.2 5) (Int32.toNatClampNeg (nI j)) 1)) (j + 1)) else (rmI a b k (yR x 5 (upd (x.2 5) (Int32.toNatClampNeg (nI j)) 0)) (j + 1))
set_option maxRecDepth 100000 in
set_option maxHeartbeats 4000000 in
theorem lrmI {a9 : kH} {z9 : kE × kE} {Q : kQ} {a : Int32} {b : Int32}  : ∀ (k : Nat) (x : kY) (j : Nat), j + k = 64 → (∀ (z3 : Value), kEv kX12_reach (kRm kX12_reach 0 0) (kFm false 0 0 (Q)) false 74 [.ref 116, .int a, .int b, z3, .retAddr 0, .retAddr 0, .retAddr 0] [] (kTp a9 (kHr (rmI a b k x j) z9)) 130 0 0) → kEv kX12_reach (kRm kX12_reach 0 0) (kFm false 0 0 (Q)) false 41 [.ref 116, .int a, .int b, .int (nI j), .retAddr 0, .retAddr 0, .retAddr 0] [] (kTp a9 (kHr x z9)) 130 0 0 := by
  intro k
  induction k with
  | zero =>
    intro x j hj hx
    refine k_iload_n (i := 3) dX12_reach_41 (rfl : 41 + 1 = 42) rfl rfl ?_
    refine k_bipush (v := 64) dX12_reach_42 (rfl : 42 + 2 = 44) (by decide) ?_
    refine k_icmp_ge (tgt := 74) dX12_reach_44 (rfl : 44 + 3 = 47) (by decide) (fun b44 => ?_) (fun b44 => by exact absurd (nI_le (a := 64) (b := j) (by omega) (by omega)) b44)
    rw [rmI] at hx
    exact hx _
  | succ k ih =>
    intro x j hj hx
    refine k_iload_n (i := 3) dX12_reach_41 (rfl : 41 + 1 = 42) rfl rfl ?_
    refine k_bipush (v := 64) dX12_reach_42 (rfl : 42 + 2 = 44) (by decide) ?_
    refine k_icmp_ge (tgt := 74) dX12_reach_44 (rfl : 44 + 3 = 47) (by decide) (fun b44 => by exact absurd b44 (nI_ge (a := j) (b := 64) (by omega) (by decide))) (fun b44 => ?_)
    refine k_aload_n (i := 0) dX12_reach_47 (rfl : 47 + 1 = 48) rfl rfl ?_
    refine k_get 12 12 fg_X12_32 dX12_reach_48 (rfl : 48 + 3 = 51) (Nat.le_of_ble_eq_true rfl) rfl rfl ?_
    refine k_iload_n (i := 3) dX12_reach_51 (rfl : 51 + 1 = 52) rfl rfl ?_
    refine k_iload_n (i := 3) dX12_reach_52 (rfl : 52 + 1 = 53) rfl rfl ?_
    refine k_bipush (v := 8) dX12_reach_53 (rfl : 53 + 2 = 55) (by decide) ?_
    refine k_iload_n (i := 2) dX12_reach_55 (rfl : 55 + 1 = 56) rfl rfl ?_
    refine k_imul dX12_reach_56 (rfl : 56 + 1 = 57) ?_
    refine k_iload_n (i := 1) dX12_reach_57 (rfl : 57 + 1 = 58) rfl rfl ?_
    refine k_iadd dX12_reach_58 (rfl : 58 + 1 = 59) ?_
    refine k_icmp_ne (tgt := 66) dX12_reach_59 (rfl : 59 + 3 = 62) (by decide) (fun b59 => ?_) (fun b59 => ?_)
    · refine k_iconst (v := 0) dX12_reach_66 (rfl : 66 + 1 = 67) (by decide) ?_
      refine k_iast dX12_reach_67 (rfl : 67 + 1 = 68) (Nat.le_of_ble_eq_true rfl) rfl (vp_in_nI (by omega) (by omega)) ?_
      refine kf_Z5 (f := (upd (x.2 5) (Int32.toNatClampNeg (nI j)) 0)) rfl ?_
      refine k_iinc (i := 3) (v := (nI (j + 1))) dX12_reach_68 (rfl : 68 + 3 = 71) rfl (Nat.le_of_ble_eq_true rfl) (nI_1 _) ?_
      refine k_ls (ls2 := [.ref 116, .int a, .int b, .int (nI (j + 1)), .retAddr 0, .retAddr 0, .retAddr 0]) rfl ?_
      refine k_goto (tgt := 41) dX12_reach_71 (by decide) ?_
      rw [rmI, if_neg (show ¬ ((nI j) = ((8 * b) + a)) from b59)] at hx
      exact ih (yR x 5 (upd (x.2 5) (Int32.toNatClampNeg (nI j)) 0)) (j + 1) (by omega) hx
    · refine k_iconst (v := 1) dX12_reach_62 (rfl : 62 + 1 = 63) (by decide) ?_
      refine k_goto (tgt := 67) dX12_reach_63 (by decide) ?_
      refine k_iast dX12_reach_67 (rfl : 67 + 1 = 68) (Nat.le_of_ble_eq_true rfl) rfl (vp_in_nI (by omega) (by omega)) ?_
      refine kf_Z5 (f := (upd (x.2 5) (Int32.toNatClampNeg (nI j)) 1)) rfl ?_
      refine k_iinc (i := 3) (v := (nI (j + 1))) dX12_reach_68 (rfl : 68 + 3 = 71) rfl (Nat.le_of_ble_eq_true rfl) (nI_1 _) ?_
      refine k_ls (ls2 := [.ref 116, .int a, .int b, .int (nI (j + 1)), .retAddr 0, .retAddr 0, .retAddr 0]) rfl ?_
      refine k_goto (tgt := 41) dX12_reach_71 (by decide) ?_
      rw [rmI, if_pos (show (nI j) = ((8 * b) + a) from b59)] at hx
      exact ih (yR x 5 (upd (x.2 5) (Int32.toNatClampNeg (nI j)) 1)) (j + 1) (by omega) hx
def rwI (i : Nat) : Nat → kY → Nat → Int32 → kY × Int32
  | 0, x, j, m => (x, m)
  | k + 1, x, j, m => if ((x.2 5) (Int32.toNatClampNeg (nI i))) = 1 then (if ((x.2 5) (Int32.toNatClampNeg (f_X12_next (nI i) (nI (2 * j))))) = 1 then (rwI i k x (j + 1) m) else (if (f_X12_isTree (x.2 0) (f_X12_next (nI i) (nI (2 * j)))) = 0 then (rwI i k (yR x 5 (upd (x.2 5) (Int32.toNatClampNeg (f_X12_next (nI i) (nI (2 * j)))) 1)) (j + 1) 1) else (rwI i k x (j + 1) m))) else (x, m)
set_option maxRecDepth 100000 in
set_option maxHeartbeats 4000000 in
theorem lrwI {a9 : kH} {z9 : kE × kE} {Q : kQ} {i : Nat} {a : Int32} {b : Int32}  (hi : i < 64) : ∀ (k : Nat) (x : kY) (j : Nat) (m : Int32) (t6 : Value), j + k = 4 → (∀ (z5 : Value) (z6 : Value), kEv kX12_reach (kRm kX12_reach 0 0) (kFm false 0 0 (Q)) false 161 [.ref 116, .int a, .int b, .int (rwI i k x j m).2, .int (nI i), z5, z6] [] (kTp a9 (kHr (rwI i k x j m).1 z9)) 130 0 0) → kEv kX12_reach (kRm kX12_reach 0 0) (kFm false 0 0 (Q)) false 95 [.ref 116, .int a, .int b, .int m, .int (nI i), .int (nI (2 * j)), t6] [] (kTp a9 (kHr x z9)) 130 0 0 := by
  intro k
  induction k with
  | zero =>
    intro x j m t6 hj hx
    refine k_iload (i := 5) dX12_reach_95 (rfl : 95 + 2 = 97) rfl ?_
    refine k_bipush (v := 8) dX12_reach_97 (rfl : 97 + 2 = 99) (by decide) ?_
    refine k_icmp_ge (tgt := 161) dX12_reach_99 (rfl : 99 + 3 = 102) (by decide) (fun b99 => ?_) (fun b99 => by exact absurd (nI_le (a := 8) (b := (2 * j)) (by omega) (by omega)) b99)
    rw [rwI] at hx
    exact hx _ _
  | succ k ih =>
    intro x j m t6 hj hx
    refine k_iload (i := 5) dX12_reach_95 (rfl : 95 + 2 = 97) rfl ?_
    refine k_bipush (v := 8) dX12_reach_97 (rfl : 97 + 2 = 99) (by decide) ?_
    refine k_icmp_ge (tgt := 161) dX12_reach_99 (rfl : 99 + 3 = 102) (by decide) (fun b99 => by exact absurd b99 (nI_ge (a := (2 * j)) (b := 8) (by omega) (by decide))) (fun b99 => ?_)
    refine k_aload_n (i := 0) dX12_reach_102 (rfl : 102 + 1 = 103) rfl rfl ?_
    refine k_get 12 12 fg_X12_32 dX12_reach_103 (rfl : 103 + 3 = 106) (Nat.le_of_ble_eq_true rfl) rfl rfl ?_
    refine k_iload (i := 4) dX12_reach_106 (rfl : 106 + 2 = 108) rfl ?_
    refine k_iald dX12_reach_108 (rfl : 108 + 1 = 109) (Nat.le_of_ble_eq_true rfl) rfl (vp_in_nI hi (by omega)) ?_
    refine k_iconst (v := 1) dX12_reach_109 (rfl : 109 + 1 = 110) (by decide) ?_
    refine k_icmp_ne (tgt := 161) dX12_reach_110 (rfl : 110 + 3 = 113) (by decide) (fun b110 => ?_) (fun b110 => ?_)
    · rw [rwI, if_neg (show ¬ (((x.2 5) (Int32.toNatClampNeg (nI i))) = 1) from b110)] at hx
      exact hx _ _
    · refine k_iload (i := 4) dX12_reach_113 (rfl : 113 + 2 = 115) rfl ?_
      refine k_iload (i := 5) dX12_reach_115 (rfl : 115 + 2 = 117) rfl ?_
      refine k_callSd2 cv_X12_121 ⟨Nat.le_of_ble_eq_true rfl, Nat.le_of_ble_eq_true rfl⟩ (m_X12_next) dX12_reach_117 (rfl : 117 + 3 = 120) rfl ⟨Nat.le_of_ble_eq_true rfl, Nat.le_of_ble_eq_true rfl⟩ ?_
      refine k_istore (i := 6) dX12_reach_120 (rfl : 120 + 2 = 122) (Nat.le_of_ble_eq_true rfl) ?_
      refine k_ls (ls2 := [.ref 116, .int a, .int b, .int m, .int (nI i), .int (nI (2 * j)), .int (f_X12_next (nI i) (nI (2 * j)))]) rfl ?_
      refine k_aload_n (i := 0) dX12_reach_122 (rfl : 122 + 1 = 123) rfl rfl ?_
      refine k_get 12 12 fg_X12_32 dX12_reach_123 (rfl : 123 + 3 = 126) (Nat.le_of_ble_eq_true rfl) rfl rfl ?_
      refine k_iload (i := 6) dX12_reach_126 (rfl : 126 + 2 = 128) rfl ?_
      refine k_iald dX12_reach_128 (rfl : 128 + 1 = 129) (Nat.le_of_ble_eq_true rfl) rfl (c64_64 (next_ok ⟨i, hi, rfl⟩ ⟨2 * j, by omega, rfl⟩)) ?_
      refine k_iconst (v := 1) dX12_reach_129 (rfl : 129 + 1 = 130) (by decide) ?_
      refine k_icmp_eq (tgt := 155) dX12_reach_130 (rfl : 130 + 3 = 133) (by decide) (fun b130 => ?_) (fun b130 => ?_)
      · refine k_iinc (i := 5) (v := (nI (2 * (j + 1)))) dX12_reach_155 (rfl : 155 + 3 = 158) rfl (Nat.le_of_ble_eq_true rfl) ((nI_add (2 * j) 2)) ?_
        refine k_ls (ls2 := [.ref 116, .int a, .int b, .int m, .int (nI i), .int (nI (2 * (j + 1))), .int (f_X12_next (nI i) (nI (2 * j)))]) rfl ?_
        refine k_goto (tgt := 95) dX12_reach_158 (by decide) ?_
        rw [rwI, if_pos (show ((x.2 5) (Int32.toNatClampNeg (nI i))) = 1 from b110), if_pos (show ((x.2 5) (Int32.toNatClampNeg (f_X12_next (nI i) (nI (2 * j))))) = 1 from b130)] at hx
        exact ih x (j + 1) m _ (by omega) hx
      · refine k_aload_n (i := 0) dX12_reach_133 (rfl : 133 + 1 = 134) rfl rfl ?_
        refine k_iload (i := 6) dX12_reach_134 (rfl : 134 + 2 = 136) rfl ?_
        refine k_callVd1 cv_X12_106 ⟨Nat.le_of_ble_eq_true rfl, Nat.le_of_ble_eq_true rfl⟩ (m_X12_isTree (next_ok ⟨i, hi, rfl⟩ ⟨2 * j, by omega, rfl⟩)) dX12_reach_136 (rfl : 136 + 3 = 139) (Nat.le_of_ble_eq_true rfl) rfl rfl rfl ⟨Nat.le_of_ble_eq_true rfl, Nat.le_of_ble_eq_true rfl⟩ ?_
        refine k_if_eq (tgt := 145) dX12_reach_139 (rfl : 139 + 3 = 142) (by decide) (fun b139 => ?_) (fun b139 => ?_)
        · refine k_aload_n (i := 0) dX12_reach_145 (rfl : 145 + 1 = 146) rfl rfl ?_
          refine k_get 12 12 fg_X12_32 dX12_reach_146 (rfl : 146 + 3 = 149) (Nat.le_of_ble_eq_true rfl) rfl rfl ?_
          refine k_iload (i := 6) dX12_reach_149 (rfl : 149 + 2 = 151) rfl ?_
          refine k_iconst (v := 1) dX12_reach_151 (rfl : 151 + 1 = 152) (by decide) ?_
          refine k_iast dX12_reach_152 (rfl : 152 + 1 = 153) (Nat.le_of_ble_eq_true rfl) rfl (c64_64 (next_ok ⟨i, hi, rfl⟩ ⟨2 * j, by omega, rfl⟩)) ?_
          refine kf_Z5 (f := (upd (x.2 5) (Int32.toNatClampNeg (f_X12_next (nI i) (nI (2 * j)))) 1)) rfl ?_
          refine k_iconst (v := 1) dX12_reach_153 (rfl : 153 + 1 = 154) (by decide) ?_
          refine k_istore_n (i := 3) dX12_reach_154 (rfl : 154 + 1 = 155) rfl (Nat.le_of_ble_eq_true rfl) ?_
          refine k_ls (ls2 := [.ref 116, .int a, .int b, .int 1, .int (nI i), .int (nI (2 * j)), .int (f_X12_next (nI i) (nI (2 * j)))]) rfl ?_
          refine k_iinc (i := 5) (v := (nI (2 * (j + 1)))) dX12_reach_155 (rfl : 155 + 3 = 158) rfl (Nat.le_of_ble_eq_true rfl) ((nI_add (2 * j) 2)) ?_
          refine k_ls (ls2 := [.ref 116, .int a, .int b, .int 1, .int (nI i), .int (nI (2 * (j + 1))), .int (f_X12_next (nI i) (nI (2 * j)))]) rfl ?_
          refine k_goto (tgt := 95) dX12_reach_158 (by decide) ?_
          rw [rwI, if_pos (show ((x.2 5) (Int32.toNatClampNeg (nI i))) = 1 from b110), if_neg (show ¬ (((x.2 5) (Int32.toNatClampNeg (f_X12_next (nI i) (nI (2 * j))))) = 1) from b130), if_pos (show (f_X12_isTree (x.2 0) (f_X12_next (nI i) (nI (2 * j)))) = 0 from b139)] at hx
          exact ih (yR x 5 (upd (x.2 5) (Int32.toNatClampNeg (f_X12_next (nI i) (nI (2 * j)))) 1)) (j + 1) 1 _ (by omega) hx
        · refine k_goto (tgt := 155) dX12_reach_142 (by decide) ?_
          refine k_iinc (i := 5) (v := (nI (2 * (j + 1)))) dX12_reach_155 (rfl : 155 + 3 = 158) rfl (Nat.le_of_ble_eq_true rfl) ((nI_add (2 * j) 2)) ?_
          refine k_ls (ls2 := [.ref 116, .int a, .int b, .int m, .int (nI i), .int (nI (2 * (j + 1))), .int (f_X12_next (nI i) (nI (2 * j)))]) rfl ?_
          refine k_goto (tgt := 95) dX12_reach_158 (by decide) ?_
          rw [rwI, if_pos (show ((x.2 5) (Int32.toNatClampNeg (nI i))) = 1 from b110), if_neg (show ¬ (((x.2 5) (Int32.toNatClampNeg (f_X12_next (nI i) (nI (2 * j))))) = 1) from b130), if_neg (show ¬ ((f_X12_isTree (x.2 0) (f_X12_next (nI i) (nI (2 * j)))) = 0) from b139)] at hx
          exact ih x (j + 1) m _ (by omega) hx
def rcI : Nat → kY → Nat → Int32 → kY × Int32
  | 0, x, j, m => (x, m)
  | k + 1, x, j, m => (rcI k ((rwI j 4 x 0 m).1) (j + 1) ((rwI j 4 x 0 m).2))
set_option maxRecDepth 100000 in
set_option maxHeartbeats 4000000 in
theorem lrcI {a9 : kH} {z9 : kE × kE} {Q : kQ} {a : Int32} {b : Int32}  : ∀ (k : Nat) (x : kY) (j : Nat) (m : Int32) (t5 : Value) (t6 : Value), j + k = 64 → (∀ (z4 : Value) (z5 : Value) (z6 : Value), kEv kX12_reach (kRm kX12_reach 0 0) (kFm false 0 0 (Q)) false 167 [.ref 116, .int a, .int b, .int (rcI k x j m).2, z4, z5, z6] [] (kTp a9 (kHr (rcI k x j m).1 z9)) 130 0 0) → kEv kX12_reach (kRm kX12_reach 0 0) (kFm false 0 0 (Q)) false 85 [.ref 116, .int a, .int b, .int m, .int (nI j), t5, t6] [] (kTp a9 (kHr x z9)) 130 0 0 := by
  intro k
  induction k with
  | zero =>
    intro x j m t5 t6 hj hx
    refine k_iload (i := 4) dX12_reach_85 (rfl : 85 + 2 = 87) rfl ?_
    refine k_bipush (v := 64) dX12_reach_87 (rfl : 87 + 2 = 89) (by decide) ?_
    refine k_icmp_ge (tgt := 167) dX12_reach_89 (rfl : 89 + 3 = 92) (by decide) (fun b89 => ?_) (fun b89 => by exact absurd (nI_le (a := 64) (b := j) (by omega) (by omega)) b89)
    rw [rcI] at hx
    exact hx _ _ _
  | succ k ih =>
    intro x j m t5 t6 hj hx
    refine k_iload (i := 4) dX12_reach_85 (rfl : 85 + 2 = 87) rfl ?_
    refine k_bipush (v := 64) dX12_reach_87 (rfl : 87 + 2 = 89) (by decide) ?_
    refine k_icmp_ge (tgt := 167) dX12_reach_89 (rfl : 89 + 3 = 92) (by decide) (fun b89 => by exact absurd b89 (nI_ge (a := j) (b := 64) (by omega) (by decide))) (fun b89 => ?_)
    refine k_iconst (v := 0) dX12_reach_92 (rfl : 92 + 1 = 93) (by decide) ?_
    refine k_istore (i := 5) dX12_reach_93 (rfl : 93 + 2 = 95) (Nat.le_of_ble_eq_true rfl) ?_
    refine k_ls (ls2 := [.ref 116, .int a, .int b, .int m, .int (nI j), .int 0, t6]) rfl ?_
    refine lrwI (i := j) (by omega) 4 x 0 m _ (by omega) (fun z5 z6 => ?_)
    generalize hw95 : (rwI j 4 x 0 m) = w95
    refine k_iinc (i := 4) (v := (nI (j + 1))) dX12_reach_161 (rfl : 161 + 3 = 164) rfl (Nat.le_of_ble_eq_true rfl) (nI_1 _) ?_
    refine k_ls (ls2 := [.ref 116, .int a, .int b, .int w95.2, .int (nI (j + 1)), z5, z6]) rfl ?_
    refine k_goto (tgt := 85) dX12_reach_164 (by decide) ?_
    subst hw95
    rw [rcI] at hx
    exact ih ((rwI j 4 x 0 m).1) (j + 1) ((rwI j 4 x 0 m).2) _ _ (by omega) hx
theorem rwI_x {i k : Nat} (hi : i < 64) : ∀ {x : kY} {j : Nat} {m : Int32}, j + k = 4 → (rwI i k x j m).1.1 = x.1 ∧ (∀ r, r ≠ 5 → (rwI i k x j m).1.2 r = x.2 r) ∧ muC ((rwI i k x j m).1.2 5) 64 ≤ muC (x.2 5) 64 ∧ ((rwI i k x j m).2 = m ∨ muC ((rwI i k x j m).1.2 5) 64 < muC (x.2 5) 64) := by
  induction k with
  | zero => intro x j m _; exact ⟨rfl, fun _ _ => rfl, Nat.le_refl _, Or.inl rfl⟩
  | succ k ih =>
    intro x j m hj
    rw [rwI]
    split
    · split
      · exact ih (by omega)
      · rename_i h1
        split
        · obtain ⟨n, hn, e⟩ := next_ok (a := nI i) (w := nI (2 * j)) ⟨i, hi, rfl⟩ ⟨2 * j, by omega, rfl⟩
          have h2 := ih (x := yR x 5 (upd (x.2 5) (Int32.toNatClampNeg (f_X12_next (nI i) (nI (2 * j)))) 1)) (j := j + 1) (m := 1) (by omega)
          rw [e, nI_clamp (by omega)] at h1 h2 ⊢
          have h3 := mu_up (f := x.2 5) h1 (n := 64) (by omega)
          have e5 : (yR x 5 (upd (x.2 5) n 1)).2 5 = upd (x.2 5) n 1 := rfl
          rw [e5] at h2
          exact ⟨h2.1, fun r hr => (h2.2.1 r hr).trans (if_neg hr), by omega, Or.inr (by omega)⟩
        · exact ih (by omega)
    · exact ⟨rfl, fun _ _ => rfl, Nat.le_refl _, Or.inl rfl⟩
theorem rcI_x {k : Nat} : ∀ {x : kY} {j : Nat} {m : Int32}, j + k = 64 → (rcI k x j m).1.1 = x.1 ∧ (∀ r, r ≠ 5 → (rcI k x j m).1.2 r = x.2 r) ∧ muC ((rcI k x j m).1.2 5) 64 ≤ muC (x.2 5) 64 ∧ ((rcI k x j m).2 = m ∨ muC ((rcI k x j m).1.2 5) 64 < muC (x.2 5) 64) := by
  induction k with
  | zero => intro x j m _; exact ⟨rfl, fun _ _ => rfl, Nat.le_refl _, Or.inl rfl⟩
  | succ k ih =>
    intro x j m hj
    obtain ⟨h1, h2, h3, h4⟩ := rwI_x (i := j) (k := 4) (by omega) (x := x) (j := 0) (m := m) (by omega)
    obtain ⟨q1, q2, q3, q4⟩ := ih (x := (rwI j 4 x 0 m).1) (j := j + 1) (m := (rwI j 4 x 0 m).2) (by omega)
    rw [rcI]
    refine ⟨q1.trans h1, fun r hr => (q2 r hr).trans (h2 r hr), by omega, ?_⟩
    rcases q4 with q4 | q4
    · rcases h4 with h4 | h4
      · exact Or.inl (q4.trans h4)
      · exact Or.inr (by omega)
    · exact Or.inr (by omega)
def rhL : Nat → kY → Nat → Int32 → kY × Int32
  | 0, x, j, m => (x, m)
  | k + 1, x, j, m => if m = 0 then (x, m) else (rhL k ((rcI 64 x 0 0).1) (j + 1) ((rcI 64 x 0 0).2))
set_option maxRecDepth 100000 in
set_option maxHeartbeats 4000000 in
theorem lrhL {a9 : kH} {z9 : kE × kE} {Q : kQ} {a : Int32} {b : Int32} {n0 : Nat}  : ∀ (k : Nat) (x : kY) (j : Nat) (m : Int32) (t4 : Value) (t5 : Value) (t6 : Value), j + k = n0 → m = 0 ∨ muC (x.2 5) 64 < k → (∀ (z4 : Value) (z5 : Value) (z6 : Value), kEv kX12_reach (kRm kX12_reach 0 0) (kFm false 0 0 (Q)) false 170 [.ref 116, .int a, .int b, .int (rhL k x j m).2, z4, z5, z6] [] (kTp a9 (kHr (rhL k x j m).1 z9)) 130 0 0) → kEv kX12_reach (kRm kX12_reach 0 0) (kFm false 0 0 (Q)) false 76 [.ref 116, .int a, .int b, .int m, t4, t5, t6] [] (kTp a9 (kHr x z9)) 130 0 0 := by
  intro k
  induction k with
  | zero =>
    intro x j m t4 t5 t6 hj hm hx
    refine k_iload_n (i := 3) dX12_reach_76 (rfl : 76 + 1 = 77) rfl rfl ?_
    refine k_if_eq (tgt := 170) dX12_reach_77 (rfl : 77 + 3 = 80) (by decide) (fun b77 => ?_) (fun b77 => by first | (rcases hm with h9 | h9; exact absurd h9 b77; omega))
    rw [rhL] at hx
    exact hx _ _ _
  | succ k ih =>
    intro x j m t4 t5 t6 hj hm hx
    refine k_iload_n (i := 3) dX12_reach_76 (rfl : 76 + 1 = 77) rfl rfl ?_
    refine k_if_eq (tgt := 170) dX12_reach_77 (rfl : 77 + 3 = 80) (by decide) (fun b77 => ?_) (fun b77 => ?_)
    · rw [rhL, if_pos (show m = 0 from b77)] at hx
      exact hx _ _ _
    · refine k_iconst (v := 0) dX12_reach_80 (rfl : 80 + 1 = 81) (by decide) ?_
      refine k_istore_n (i := 3) dX12_reach_81 (rfl : 81 + 1 = 82) rfl (Nat.le_of_ble_eq_true rfl) ?_
      refine k_ls (ls2 := [.ref 116, .int a, .int b, .int 0, t4, t5, t6]) rfl ?_
      refine k_iconst (v := 0) dX12_reach_82 (rfl : 82 + 1 = 83) (by decide) ?_
      refine k_istore (i := 4) dX12_reach_83 (rfl : 83 + 2 = 85) (Nat.le_of_ble_eq_true rfl) ?_
      refine k_ls (ls2 := [.ref 116, .int a, .int b, .int 0, .int 0, t5, t6]) rfl ?_
      refine lrcI 64 x 0 0 _ _ (by omega) (fun z4 z5 z6 => ?_)
      generalize hw85 : (rcI 64 x 0 0) = w85
      refine k_goto (tgt := 76) dX12_reach_167 (by decide) ?_
      subst hw85
      rw [rhL, if_neg (show ¬ (m = 0) from b77)] at hx
      exact ih ((rcI 64 x 0 0).1) (j + 1) ((rcI 64 x 0 0).2) _ _ _ (by omega) (by obtain ⟨-, -, q3, q4⟩ := rcI_x (k := 64) (x := x) (j := 0) (m := 0) (by omega); rcases q4 with q4 | q4; exact Or.inl q4; exact Or.inr (by rcases hm with h9 | h9; exact absurd h9 b77; omega)) hx
def rsL (x : kY) : Nat → Nat → Int64 → Int64
  | 0, j, s => s
  | k + 1, j, s => if ((x.2 5) (Int32.toNatClampNeg (nI j))) = 1 then (rsL x k (j + 1) (s ||| (1 <<< (Int32.toInt64 (nI j) &&& 63)))) else (rsL x k (j + 1) (s ||| 0))
set_option maxRecDepth 100000 in
set_option maxHeartbeats 4000000 in
theorem lrsL {x : kY} {a9 : kH} {z9 : kE × kE} {Q : kQ} {a : Int32} {b : Int32} {t3 : Int32}  : ∀ (k : Nat) (j : Nat) (s : Int64), j + k = 64 → (∀ (z6 : Value), kEv kX12_reach (kRm kX12_reach 0 0) (kFm false 0 0 (Q)) false 213 [.ref 116, .int a, .int b, .int t3, .long (rsL x k j s), .retAddr 0, z6] [] (kTp a9 (kHr x z9)) 130 0 0) → kEv kX12_reach (kRm kX12_reach 0 0) (kFm false 0 0 (Q)) false 176 [.ref 116, .int a, .int b, .int t3, .long s, .retAddr 0, .int (nI j)] [] (kTp a9 (kHr x z9)) 130 0 0 := by
  intro k
  induction k with
  | zero =>
    intro j s hj hx
    refine k_iload (i := 6) dX12_reach_176 (rfl : 176 + 2 = 178) rfl ?_
    refine k_bipush (v := 64) dX12_reach_178 (rfl : 178 + 2 = 180) (by decide) ?_
    refine k_icmp_ge (tgt := 213) dX12_reach_180 (rfl : 180 + 3 = 183) (by decide) (fun b180 => ?_) (fun b180 => by exact absurd (nI_le (a := 64) (b := j) (by omega) (by omega)) b180)
    rw [rsL] at hx
    exact hx _
  | succ k ih =>
    intro j s hj hx
    refine k_iload (i := 6) dX12_reach_176 (rfl : 176 + 2 = 178) rfl ?_
    refine k_bipush (v := 64) dX12_reach_178 (rfl : 178 + 2 = 180) (by decide) ?_
    refine k_icmp_ge (tgt := 213) dX12_reach_180 (rfl : 180 + 3 = 183) (by decide) (fun b180 => by exact absurd b180 (nI_ge (a := j) (b := 64) (by omega) (by decide))) (fun b180 => ?_)
    refine k_lload (i := 4) dX12_reach_183 (rfl : 183 + 2 = 185) rfl ?_
    refine k_aload_n (i := 0) dX12_reach_185 (rfl : 185 + 1 = 186) rfl rfl ?_
    refine k_get 12 12 fg_X12_32 dX12_reach_186 (rfl : 186 + 3 = 189) (Nat.le_of_ble_eq_true rfl) rfl rfl ?_
    refine k_iload (i := 6) dX12_reach_189 (rfl : 189 + 2 = 191) rfl ?_
    refine k_iald dX12_reach_191 (rfl : 191 + 1 = 192) (Nat.le_of_ble_eq_true rfl) rfl (vp_in_nI (by omega) (by omega)) ?_
    refine k_iconst (v := 1) dX12_reach_192 (rfl : 192 + 1 = 193) (by decide) ?_
    refine k_icmp_ne (tgt := 203) dX12_reach_193 (rfl : 193 + 3 = 196) (by decide) (fun b193 => ?_) (fun b193 => ?_)
    · refine k_lconst (v := 0) dX12_reach_203 (rfl : 203 + 1 = 204) (by decide) ?_
      refine k_lor dX12_reach_204 (rfl : 204 + 1 = 205) ?_
      refine k_lstore (i := 4) dX12_reach_205 (rfl : 205 + 2 = 207) (Nat.le_of_ble_eq_true rfl) ?_
      refine k_ls (ls2 := [.ref 116, .int a, .int b, .int t3, .long (s ||| 0), .retAddr 0, .int (nI j)]) rfl ?_
      refine k_iinc (i := 6) (v := (nI (j + 1))) dX12_reach_207 (rfl : 207 + 3 = 210) rfl (Nat.le_of_ble_eq_true rfl) (nI_1 _) ?_
      refine k_ls (ls2 := [.ref 116, .int a, .int b, .int t3, .long (s ||| 0), .retAddr 0, .int (nI (j + 1))]) rfl ?_
      refine k_goto (tgt := 176) dX12_reach_210 (by decide) ?_
      rw [rsL, if_neg (show ¬ (((x.2 5) (Int32.toNatClampNeg (nI j))) = 1) from b193)] at hx
      exact ih (j + 1) (s ||| 0) (by omega) hx
    · refine k_lconst (v := 1) dX12_reach_196 (rfl : 196 + 1 = 197) (by decide) ?_
      refine k_iload (i := 6) dX12_reach_197 (rfl : 197 + 2 = 199) rfl ?_
      refine k_lshl dX12_reach_199 (rfl : 199 + 1 = 200) ?_
      refine k_goto (tgt := 204) dX12_reach_200 (by decide) ?_
      refine k_lor dX12_reach_204 (rfl : 204 + 1 = 205) ?_
      refine k_lstore (i := 4) dX12_reach_205 (rfl : 205 + 2 = 207) (Nat.le_of_ble_eq_true rfl) ?_
      refine k_ls (ls2 := [.ref 116, .int a, .int b, .int t3, .long (s ||| (1 <<< (Int32.toInt64 (nI j) &&& 63))), .retAddr 0, .int (nI j)]) rfl ?_
      refine k_iinc (i := 6) (v := (nI (j + 1))) dX12_reach_207 (rfl : 207 + 3 = 210) rfl (Nat.le_of_ble_eq_true rfl) (nI_1 _) ?_
      refine k_ls (ls2 := [.ref 116, .int a, .int b, .int t3, .long (s ||| (1 <<< (Int32.toInt64 (nI j) &&& 63))), .retAddr 0, .int (nI (j + 1))]) rfl ?_
      refine k_goto (tgt := 176) dX12_reach_210 (by decide) ?_
      rw [rsL, if_pos (show ((x.2 5) (Int32.toNatClampNeg (nI j))) = 1 from b193)] at hx
      exact ih (j + 1) (s ||| (1 <<< (Int32.toInt64 (nI j) &&& 63))) (by omega) hx
def f_X12_reach (x : kY) (a1 : Int32) (a2 : Int32) : Int64 := if (f_X12_isCell a1 a2) = 0 then 0 else (if (f_X12_isTree (x.2 0) ((8 * a2) + a1)) = 0 then (rsL (rhL 65 (rmI a1 a2 64 (yS x 0 0) 0) 0 1).1 64 0 0) else 0)
def g_X12_reach (x : kY) (a1 : Int32) (a2 : Int32) : kY := if (f_X12_isCell a1 a2) = 0 then (yS x 0 1) else (if (f_X12_isTree (x.2 0) ((8 * a2) + a1)) = 0 then ((rhL 65 (rmI a1 a2 64 (yS x 0 0) 0) 0 1).1) else (yS x 0 0))
set_option maxRecDepth 100000 in
set_option maxHeartbeats 4000000 in
theorem m_X12_reach {x : kY} {a9 : kH} {z9 : kE × kE} {a1 : Int32} {a2 : Int32} : kMet kX12_reach false 0 0 [.ref 116, .int a1, .int a2] (kTp a9 (kHr x z9)) 130 (kRt (some (.long (f_X12_reach x a1 a2))) (kTp a9 (kHr (g_X12_reach x a1 a2) z9)) 130) := by
  refine kMet.in (by decide) rfl rfl _ rfl ?_
  refine k_aload_n (i := 0) dX12_reach_0 (rfl : 0 + 1 = 1) rfl rfl ?_
  refine k_iload_n (i := 1) dX12_reach_1 (rfl : 1 + 1 = 2) rfl rfl ?_
  refine k_iload_n (i := 2) dX12_reach_2 (rfl : 2 + 1 = 3) rfl rfl ?_
  refine k_callSd2 cv_X12_81 ⟨Nat.le_of_ble_eq_true rfl, Nat.le_of_ble_eq_true rfl⟩ (m_X12_isCell) dX12_reach_3 (rfl : 3 + 3 = 6) rfl ⟨Nat.le_of_ble_eq_true rfl, Nat.le_of_ble_eq_true rfl⟩ ?_
  refine k_if_eq (tgt := 13) dX12_reach_6 (rfl : 6 + 3 = 9) (by decide) (fun b6 => ?_) (fun b6 => ?_)
  · refine k_iconst (v := 1) dX12_reach_13 (rfl : 13 + 1 = 14) (by decide) ?_
    refine k_put 12 0 fp_X12_50 dX12_reach_14 (rfl : 14 + 3 = 17) (Nat.le_of_ble_eq_true rfl) rfl (Nat.le_of_ble_eq_true rfl) rfl rfl ?_
    refine kf_Y0 (v := 1) rfl ?_
    refine k_aload_n (i := 0) dX12_reach_17 (rfl : 17 + 1 = 18) rfl rfl ?_
    refine k_get 12 0 fg_X12_50 dX12_reach_18 (rfl : 18 + 3 = 21) (Nat.le_of_ble_eq_true rfl) rfl rfl ?_
    refine k_if_ne (tgt := 37) dX12_reach_21 (rfl : 21 + 3 = 24) (by decide) (fun b21 => ?_) (fun b21 => by exact absurd b21 (by first | decide | (show ¬ (1 : Int32) = 0; decide)))
    refine k_lconst (v := 0) dX12_reach_37 (rfl : 37 + 1 = 38) (by decide) ?_
    refine k_lret rfl dX12_reach_38 (Nat.le_of_ble_eq_true rfl) (Nat.le_of_ble_eq_true rfl) ?_
    exact kRt_of (congrArg (fun z => some (Value.long z)) (Eq.symm (if_pos (show (f_X12_isCell a1 a2) = 0 from b6)))) (congrArg (fun z => kTp a9 (kHr z z9)) (Eq.symm (if_pos (show (f_X12_isCell a1 a2) = 0 from b6))))
  · refine k_iconst (v := 0) dX12_reach_9 (rfl : 9 + 1 = 10) (by decide) ?_
    refine k_goto (tgt := 14) dX12_reach_10 (by decide) ?_
    refine k_put 12 0 fp_X12_50 dX12_reach_14 (rfl : 14 + 3 = 17) (Nat.le_of_ble_eq_true rfl) rfl (Nat.le_of_ble_eq_true rfl) rfl rfl ?_
    refine kf_Y0 (v := 0) rfl ?_
    refine k_aload_n (i := 0) dX12_reach_17 (rfl : 17 + 1 = 18) rfl rfl ?_
    refine k_get 12 0 fg_X12_50 dX12_reach_18 (rfl : 18 + 3 = 21) (Nat.le_of_ble_eq_true rfl) rfl rfl ?_
    refine k_if_ne (tgt := 37) dX12_reach_21 (rfl : 21 + 3 = 24) (by decide) (fun b21 => by exact absurd (by first | decide | (show (0 : Int32) = 0; decide)) b21) (fun b21 => ?_)
    refine k_aload_n (i := 0) dX12_reach_24 (rfl : 24 + 1 = 25) rfl rfl ?_
    refine k_bipush (v := 8) dX12_reach_25 (rfl : 25 + 2 = 27) (by decide) ?_
    refine k_iload_n (i := 2) dX12_reach_27 (rfl : 27 + 1 = 28) rfl rfl ?_
    refine k_imul dX12_reach_28 (rfl : 28 + 1 = 29) ?_
    refine k_iload_n (i := 1) dX12_reach_29 (rfl : 29 + 1 = 30) rfl rfl ?_
    refine k_iadd dX12_reach_30 (rfl : 30 + 1 = 31) ?_
    refine k_callVd1 cv_X12_106 ⟨Nat.le_of_ble_eq_true rfl, Nat.le_of_ble_eq_true rfl⟩ (m_X12_isTree (ic_c b6)) dX12_reach_31 (rfl : 31 + 3 = 34) (Nat.le_of_ble_eq_true rfl) rfl rfl rfl ⟨Nat.le_of_ble_eq_true rfl, Nat.le_of_ble_eq_true rfl⟩ ?_
    refine k_if_eq (tgt := 39) dX12_reach_34 (rfl : 34 + 3 = 37) (by decide) (fun b34 => ?_) (fun b34 => ?_)
    · refine k_iconst (v := 0) dX12_reach_39 (rfl : 39 + 1 = 40) (by decide) ?_
      refine k_istore_n (i := 3) dX12_reach_40 (rfl : 40 + 1 = 41) rfl (Nat.le_of_ble_eq_true rfl) ?_
      refine k_ls (ls2 := [.ref 116, .int a1, .int a2, .int 0, .retAddr 0, .retAddr 0, .retAddr 0]) rfl ?_
      refine lrmI (a := a1) (b := a2) 64 (yS x 0 0) 0 (by omega) (fun z3 => ?_)
      generalize hw41 : (rmI a1 a2 64 (yS x 0 0) 0) = w41
      refine k_iconst (v := 1) dX12_reach_74 (rfl : 74 + 1 = 75) (by decide) ?_
      refine k_istore_n (i := 3) dX12_reach_75 (rfl : 75 + 1 = 76) rfl (Nat.le_of_ble_eq_true rfl) ?_
      refine k_ls (ls2 := [.ref 116, .int a1, .int a2, .int 1, .retAddr 0, .retAddr 0, .retAddr 0]) rfl ?_
      refine lrhL (a := a1) (b := a2) (n0 := 65) 65 w41 0 1 _ _ _ (by omega) (Or.inr (Nat.lt_succ_of_le mu_le)) (fun z4 z5 z6 => ?_)
      generalize hw76 : (rhL 65 w41 0 1) = w76
      refine k_lconst (v := 0) dX12_reach_170 (rfl : 170 + 1 = 171) (by decide) ?_
      refine k_lstore (i := 4) dX12_reach_171 (rfl : 171 + 2 = 173) (Nat.le_of_ble_eq_true rfl) ?_
      refine k_ls (ls2 := [.ref 116, .int a1, .int a2, .int w76.2, .long 0, .retAddr 0, z6]) rfl ?_
      refine k_iconst (v := 0) dX12_reach_173 (rfl : 173 + 1 = 174) (by decide) ?_
      refine k_istore (i := 6) dX12_reach_174 (rfl : 174 + 2 = 176) (Nat.le_of_ble_eq_true rfl) ?_
      refine k_ls (ls2 := [.ref 116, .int a1, .int a2, .int w76.2, .long 0, .retAddr 0, .int 0]) rfl ?_
      refine lrsL 64 0 0 (by omega) (fun z6 => ?_)
      generalize hw176 : (rsL w76.1 64 0 0) = w176
      refine k_lload (i := 4) dX12_reach_213 (rfl : 213 + 2 = 215) rfl ?_
      refine k_lret rfl dX12_reach_215 (Nat.le_of_ble_eq_true rfl) (Nat.le_of_ble_eq_true rfl) ?_
      subst hw176
      subst hw76
      subst hw41
      exact kRt_of (congrArg (fun z => some (Value.long z)) (Eq.symm (Eq.trans (if_neg (show ¬ ((f_X12_isCell a1 a2) = 0) from b6)) (if_pos (show (f_X12_isTree (x.2 0) ((8 * a2) + a1)) = 0 from b34))))) (congrArg (fun z => kTp a9 (kHr z z9)) (Eq.symm (Eq.trans (if_neg (show ¬ ((f_X12_isCell a1 a2) = 0) from b6)) (if_pos (show (f_X12_isTree (x.2 0) ((8 * a2) + a1)) = 0 from b34)))))
    · refine k_lconst (v := 0) dX12_reach_37 (rfl : 37 + 1 = 38) (by decide) ?_
      refine k_lret rfl dX12_reach_38 (Nat.le_of_ble_eq_true rfl) (Nat.le_of_ble_eq_true rfl) ?_
      exact kRt_of (congrArg (fun z => some (Value.long z)) (Eq.symm (Eq.trans (if_neg (show ¬ ((f_X12_isCell a1 a2) = 0) from b6)) (if_neg (show ¬ ((f_X12_isTree (x.2 0) ((8 * a2) + a1)) = 0) from b34))))) (congrArg (fun z => kTp a9 (kHr z z9)) (Eq.symm (Eq.trans (if_neg (show ¬ ((f_X12_isCell a1 a2) = 0) from b6)) (if_neg (show ¬ ((f_X12_isTree (x.2 0) ((8 * a2) + a1)) = 0) from b34)))))
def f_X12_reachByQueue (x : kY) (a1 : Int32) (a2 : Int32) : Int64 := (f_X12_reach x a1 a2)
def g_X12_reachByQueue (x : kY) (a1 : Int32) (a2 : Int32) : kY := (g_X12_reach x a1 a2)
set_option maxRecDepth 100000 in
set_option maxHeartbeats 4000000 in
theorem m_X12_reachByQueue {x : kY} {a9 : kH} {z9 : kE × kE} {a1 : Int32} {a2 : Int32} : kMet kX12_reachByQueue false 0 0 [.ref 116, .int a1, .int a2] (kTp a9 (kHr x z9)) 130 (kRt (some (.long (f_X12_reachByQueue x a1 a2))) (kTp a9 (kHr (g_X12_reachByQueue x a1 a2) z9)) 130) := by
  refine kMet.in (by decide) rfl rfl _ rfl ?_
  refine k_aload_n (i := 0) dX12_reachByQueue_0 (rfl : 0 + 1 = 1) rfl rfl ?_
  refine k_iload_n (i := 1) dX12_reachByQueue_1 (rfl : 1 + 1 = 2) rfl rfl ?_
  refine k_iload_n (i := 2) dX12_reachByQueue_2 (rfl : 2 + 1 = 3) rfl rfl ?_
  refine k_callVd2 cv_X12_124 ⟨Nat.le_of_ble_eq_true rfl, Nat.le_of_ble_eq_true rfl⟩ (m_X12_reach) dX12_reachByQueue_3 (rfl : 3 + 3 = 6) (Nat.le_of_ble_eq_true rfl) rfl rfl rfl ⟨Nat.le_of_ble_eq_true rfl, Nat.le_of_ble_eq_true rfl⟩ ?_
  refine k_lret rfl dX12_reachByQueue_6 (Nat.le_of_ble_eq_true rfl) (Nat.le_of_ble_eq_true rfl) ?_
  exact kRt_of rfl rfl
