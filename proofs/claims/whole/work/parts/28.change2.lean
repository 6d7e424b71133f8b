theorem nS_n {x : kK} {k j : Nat} {v : Int32} (h : j ≠ k) : ((nS x k v).1 0).2.1 j = (x.1 0).2.1 j := pk_un h
theorem nS_s {x : kK} {k : Nat} {v : Int32} : ((nS x k v).1 0).2.1 k = v := pk_us
theorem iv_nS {x : kK} {k : Nat} {v : Int32} (hk : 7 ≤ k) (iv : kIv (x.1 0)) : kIv ((nS x k v).1 0) := kIv_same (fun j hj => nS_n (by omega)) iv
theorem hp_nS {x : kK} {k : Nat} {v a : Int32} (hk : 6 ≠ k) (h : ¬ f_X3_hasPlea x a = 0) : ¬ f_X3_hasPlea (nS x k v) a = 0 := by
  unfold f_X3_hasPlea at h ⊢
  rw [nS_n hk]
  exact h
theorem iv_nR {x : kK} {k : Nat} {f : Nat → Int32} (iv : kIv (x.1 0)) : kIv ((nR x k f).1 0) := iv
theorem iv_throw {x : kK} {a b c : Int32} (iv : kIv (x.1 0)) : kIv ((g_X7_enterThrow x a b c).1 0) := by
  refine kIv_same (fun k hk => ?_) iv
  unfold g_X7_enterThrow
  split <;> rw [nS_n (by omega), nS_n (by omega), nS_n (by omega), nS_n (by omega), nS_n (by omega)]
theorem iv_fly {x : kK} {a : Int32} (iv : kIv (x.1 0)) : kIv ((g_X4_fly x a).1 0) := by rw [fly_ok.2]; exact iv
theorem m2_X3_strike {x : kK} {r : kH} {a : Int32} (iv : kIv (x.1 0)) (hp : ¬ f_X3_hasPlea x a = 0) : kMet kX3_strike false 0 0 [.ref 4, .int a] (kTp (kHc x) r) 130 (kRt none (kTp (kHc (g_X3_strike x a)) r) 130) := by
  obtain ⟨l, n, h1, h2, h3, rfl⟩ := kIv_pb iv hp
  exact m_X3_strike h1 h2 h3
theorem iv_strike {x : kK} {a : Int32} (iv : kIv (x.1 0)) (hp : ¬ f_X3_hasPlea x a = 0) : kIv ((g_X3_strike x a).1 0) := by
  obtain ⟨l, n, h1, h2, h3, rfl⟩ := kIv_pb iv hp
  obtain ⟨i0, i1, i2, i3, i4⟩ := iv
  have e : ∀ k, k ≠ 6 → ((g_X3_strike x (nI l)).1 0).2.1 k = (x.1 0).2.1 k := by
    intro k hk
    unfold g_X3_strike
    rw [nS_n hk, skL_n]
  refine ⟨by rw [e 3 (by decide)]; exact i0, ⟨n - 1, by omega, ?_⟩, by rw [e 0 (by decide)]; exact i2, by rw [e 1 (by decide)]; exact i3, by rw [e 2 (by decide)]; exact i4⟩
  obtain ⟨n, rfl⟩ : ∃ m, n = m + 1 := ⟨n - 1, by omega⟩
  unfold g_X3_strike
  rw [nS_s, h3, nI_pred]
  rfl
theorem iv_pass {x : kK} (iv : kIv (x.1 0)) : kIv ((g_X3_passHour x).1 0) := by
  obtain ⟨i0, i1, i2, i3, i4⟩ := iv
  have e : ∀ k, k ≠ 6 → k ≠ 4 → ((g_X3_passHour x).1 0).2.1 k = (x.1 0).2.1 k := by
    intro k hk hk4
    unfold g_X3_passHour
    rw [nS_n hk]
    unfold fg_X3_passHour
    rw [phL_n, nS_n hk4]
  refine ⟨by rw [e 3 (by decide) (by decide)]; exact i0, ⟨(fg_X3_passHour x).2, ?_, ?_⟩, by rw [e 0 (by decide) (by decide)]; exact i2, by rw [e 1 (by decide) (by decide)]; exact i3, by rw [e 2 (by decide) (by decide)]; exact i4⟩
  · obtain ⟨n, hn, en⟩ := i1
    unfold fg_X3_passHour
    have q := phL_le (hr := (x.1 0).2.1 4 + 1) (k := ((x.1 0).2.1 6).toNatClampNeg) (x := nS x 4 ((x.1 0).2.1 4 + 1)) (j := 0) (p := 0)
    rw [en, nI_clamp (by omega)] at q ⊢
    omega
  · unfold g_X3_passHour
    rw [nS_s]
theorem fly_h {a : Int32} (h : ¬ f_X11_isThrow a = 0) : ¬ a < 0 ∧ a < 64 := by
  unfold f_X11_isThrow at h
  split at h
  · exact absurd rfl h
  · split at h
    · exact absurd rfl h
    · rename_i h1 h2
      exact ⟨h1, by simp only [Int32.lt_iff_toInt_lt, Int32.le_iff_toInt_le] at *; omega⟩
def f_X11_throwAt (x : kK) (a1 : Int32) (a2 : Int32) : Int32 := if (pFind ((g_X4_fly x a2).2.2.1 0) ((((g_X4_fly x a2).1 0).2.2 0) (Int32.toNatClampNeg a1)) (Int32.toNatClampNeg ((g_X4_fly x a2).2.1 2)) 1) = (-1) then (if ((g_X4_fly x a2).2.1 3) = 99 then 0 else 0) else 1
def g_X11_throwAt (x : kK) (a1 : Int32) (a2 : Int32) : kK := if (pFind ((g_X4_fly x a2).2.2.1 0) ((((g_X4_fly x a2).1 0).2.2 0) (Int32.toNatClampNeg a1)) (Int32.toNatClampNeg ((g_X4_fly x a2).2.1 2)) 1) = (-1) then (if ((g_X4_fly x a2).2.1 3) = 99 then (g_X7_enterThrow (g_X4_fly x a2) (f_X11_armOf a2) ((g_X4_fly x a2).2.1 2) 1) else (g_X7_enterThrow (g_X4_fly x a2) (f_X11_armOf a2) ((g_X4_fly x a2).2.1 2) 0)) else (g_X3_enterPlea (nR (g_X7_enterThrow (g_X4_fly x a2) (f_X11_armOf a2) (pFind ((g_X4_fly x a2).2.2.1 0) ((((g_X4_fly x a2).1 0).2.2 0) (Int32.toNatClampNeg a1)) (Int32.toNatClampNeg ((g_X4_fly x a2).2.1 2)) 1) 0) 4 (upd (((g_X7_enterThrow (g_X4_fly x a2) (f_X11_armOf a2) (pFind ((g_X4_fly x a2).2.2.1 0) ((((g_X4_fly x a2).1 0).2.2 0) (Int32.toNatClampNeg a1)) (Int32.toNatClampNeg ((g_X4_fly x a2).2.1 2)) 1) 0).1 0).2.2 4) (Int32.toNatClampNeg a1) (((((g_X7_enterThrow (g_X4_fly x a2) (f_X11_armOf a2) (pFind ((g_X4_fly x a2).2.2.1 0) ((((g_X4_fly x a2).1 0).2.2 0) (Int32.toNatClampNeg a1)) (Int32.toNatClampNeg ((g_X4_fly x a2).2.1 2)) 1) 0).1 0).2.2 4) (Int32.toNatClampNeg a1)) + 1))) a1 ((((g_X7_enterThrow (g_X4_fly x a2) (f_X11_armOf a2) (pFind ((g_X4_fly x a2).2.2.1 0) ((((g_X4_fly x a2).1 0).2.2 0) (Int32.toNatClampNeg a1)) (Int32.toNatClampNeg ((g_X4_fly x a2).2.1 2)) 1) 0).1 0).2.1 4) + ((pFind ((g_X4_fly x a2).2.2.1 0) ((((g_X4_fly x a2).1 0).2.2 0) (Int32.toNatClampNeg a1)) (Int32.toNatClampNeg ((g_X4_fly x a2).2.1 2)) 1) / 4)) (f_X11_armOf a2))
set_option maxRecDepth 100000 in
set_option maxHeartbeats 4000000 in
theorem m_X11_throwAt {x : kK} {r : kH} {a1 : Int32} {a2 : Int32} (iv : kIv (x.1 0)) (ht : ¬ f_X11_isThrow a2 = 0) (hp : vp_in a1 8) : kMet kX11_throwAt false 0 0 [.ref 0, .int a1, .int a2] (kTp (kHc x) r) 130 (kRt (some (.int (f_X11_throwAt x a1 a2))) (kTp (kHc (g_X11_throwAt x a1 a2)) r) 130) := by
  refine kMet.in (by decide) rfl rfl _ rfl ?_
  refine k_aload_n (i := 0) dX11_throwAt_0 (rfl : 0 + 1 = 1) rfl rfl ?_
  refine k_get 11 4 fg_X11_32 dX11_throwAt_1 (rfl : 1 + 3 = 4) (Nat.le_of_ble_eq_true rfl) rfl rfl ?_
  refine k_aload_n (i := 0) dX11_throwAt_4 (rfl : 4 + 1 = 5) rfl rfl ?_
  refine k_get 11 0 fg_X11_12 dX11_throwAt_5 (rfl : 5 + 3 = 8) (Nat.le_of_ble_eq_true rfl) rfl rfl ?_
  refine k_get 9 0 fg_X11_100 dX11_throwAt_8 (rfl : 8 + 3 = 11) (Nat.le_of_ble_eq_true rfl) rfl rfl ?_
  refine k_iload_n (i := 2) dX11_throwAt_11 (rfl : 11 + 1 = 12) rfl rfl ?_
  refine k_callVv2 cv_X11_204 ⟨Nat.le_of_ble_eq_true rfl, Nat.le_of_ble_eq_true rfl⟩ (m_X4_fly (fly_h ht).1 (fly_h ht).2) dX11_throwAt_12 (rfl : 12 + 3 = 15) (Nat.le_of_ble_eq_true rfl) rfl rfl rfl ⟨Nat.le_of_ble_eq_true rfl, Nat.le_of_ble_eq_true rfl⟩ ?_
  refine k_aload_n (i := 0) dX11_throwAt_15 (rfl : 15 + 1 = 16) rfl rfl ?_
  refine k_get 11 4 fg_X11_32 dX11_throwAt_16 (rfl : 16 + 3 = 19) (Nat.le_of_ble_eq_true rfl) rfl rfl ?_
  refine k_aload_n (i := 0) dX11_throwAt_19 (rfl : 19 + 1 = 20) rfl rfl ?_
  refine k_get 11 0 fg_X11_12 dX11_throwAt_20 (rfl : 20 + 3 = 23) (Nat.le_of_ble_eq_true rfl) rfl rfl ?_
  refine k_get 9 0 fg_X11_100 dX11_throwAt_23 (rfl : 23 + 3 = 26) (Nat.le_of_ble_eq_true rfl) rfl rfl ?_
  refine k_get 10 5 fg_X11_178 dX11_throwAt_26 (rfl : 26 + 3 = 29) (Nat.le_of_ble_eq_true rfl) rfl rfl ?_
  refine k_iload_n (i := 1) dX11_throwAt_29 (rfl : 29 + 1 = 30) rfl rfl ?_
  refine k_iald dX11_throwAt_30 (rfl : 30 + 1 = 31) (Nat.le_of_ble_eq_true rfl) rfl hp ?_
  refine k_callVd1 cv_X11_223 ⟨Nat.le_of_ble_eq_true rfl, Nat.le_of_ble_eq_true rfl⟩ (m_X4_stepsTo fly_ok.1) dX11_throwAt_31 (rfl : 31 + 3 = 34) (Nat.le_of_ble_eq_true rfl) rfl rfl rfl ⟨Nat.le_of_ble_eq_true rfl, Nat.le_of_ble_eq_true rfl⟩ ?_
  refine k_istore_n (i := 3) dX11_throwAt_34 (rfl : 34 + 1 = 35) rfl (Nat.le_of_ble_eq_true rfl) ?_
  refine k_ls (ls2 := [.ref 0, .int a1, .int a2, .int (pFind ((g_X4_fly x a2).2.2.1 0) ((((g_X4_fly x a2).1 0).2.2 0) (Int32.toNatClampNeg a1)) (Int32.toNatClampNeg ((g_X4_fly x a2).2.1 2)) 1), .retAddr 0, .retAddr 0]) rfl ?_
  refine k_iload_n (i := 3) dX11_throwAt_35 (rfl : 35 + 1 = 36) rfl rfl ?_
  refine k_iconst (v := (-1)) dX11_throwAt_36 (rfl : 36 + 1 = 37) (by decide) ?_
  refine k_icmp_eq (tgt := 44) dX11_throwAt_37 (rfl : 37 + 3 = 40) (by decide) (fun b37 => ?_) (fun b37 => ?_)
  · refine k_iconst (v := 0) dX11_throwAt_44 (rfl : 44 + 1 = 45) (by decide) ?_
    refine k_istore (i := 4) dX11_throwAt_45 (rfl : 45 + 2 = 47) (Nat.le_of_ble_eq_true rfl) ?_
    refine k_ls (ls2 := [.ref 0, .int a1, .int a2, .int (pFind ((g_X4_fly x a2).2.2.1 0) ((((g_X4_fly x a2).1 0).2.2 0) (Int32.toNatClampNeg a1)) (Int32.toNatClampNeg ((g_X4_fly x a2).2.1 2)) 1), .int 0, .retAddr 0]) rfl ?_
    refine k_iload (i := 4) dX11_throwAt_47 (rfl : 47 + 2 = 49) rfl ?_
    refine k_if_ne (tgt := 68) dX11_throwAt_49 (rfl : 49 + 3 = 52) (by decide) (fun b49 => by exact absurd (by decide) b49) (fun b49 => ?_)
    refine k_aload_n (i := 0) dX11_throwAt_52 (rfl : 52 + 1 = 53) rfl rfl ?_
    refine k_get 11 4 fg_X11_32 dX11_throwAt_53 (rfl : 53 + 3 = 56) (Nat.le_of_ble_eq_true rfl) rfl rfl ?_
    refine k_get 4 2 fg_X11_216 dX11_throwAt_56 (rfl : 56 + 3 = 59) (Nat.le_of_ble_eq_true rfl) rfl rfl ?_
    refine k_bipush (v := 99) dX11_throwAt_59 (rfl : 59 + 2 = 61) (by decide) ?_
    refine k_icmp_ne (tgt := 68) dX11_throwAt_61 (rfl : 61 + 3 = 64) (by decide) (fun b61 => ?_) (fun b61 => ?_)
    · refine k_iconst (v := 0) dX11_throwAt_68 (rfl : 68 + 1 = 69) (by decide) ?_
      refine k_istore (i := 5) dX11_throwAt_69 (rfl : 69 + 2 = 71) (Nat.le_of_ble_eq_true rfl) ?_
      refine k_ls (ls2 := [.ref 0, .int a1, .int a2, .int (pFind ((g_X4_fly x a2).2.2.1 0) ((((g_X4_fly x a2).1 0).2.2 0) (Int32.toNatClampNeg a1)) (Int32.toNatClampNeg ((g_X4_fly x a2).2.1 2)) 1), .int 0, .int 0]) rfl ?_
      refine k_aload_n (i := 0) dX11_throwAt_71 (rfl : 71 + 1 = 72) rfl rfl ?_
      refine k_get 11 0 fg_X11_12 dX11_throwAt_72 (rfl : 72 + 3 = 75) (Nat.le_of_ble_eq_true rfl) rfl rfl ?_
      refine k_get 9 2 fg_X11_190 dX11_throwAt_75 (rfl : 75 + 3 = 78) (Nat.le_of_ble_eq_true rfl) rfl rfl ?_
      refine k_iload_n (i := 2) dX11_throwAt_78 (rfl : 78 + 1 = 79) rfl rfl ?_
      refine k_callSd1 cv_X11_479 ⟨Nat.le_of_ble_eq_true rfl, Nat.le_of_ble_eq_true rfl⟩ (m_X11_armOf) dX11_throwAt_79 (rfl : 79 + 3 = 82) rfl ⟨Nat.le_of_ble_eq_true rfl, Nat.le_of_ble_eq_true rfl⟩ ?_
      refine k_iload (i := 4) dX11_throwAt_82 (rfl : 82 + 2 = 84) rfl ?_
      refine k_if_eq (tgt := 91) dX11_throwAt_84 (rfl : 84 + 3 = 87) (by decide) (fun b84 => ?_) (fun b84 => by exact absurd (by decide) b84)
      refine k_aload_n (i := 0) dX11_throwAt_91 (rfl : 91 + 1 = 92) rfl rfl ?_
      refine k_get 11 4 fg_X11_32 dX11_throwAt_92 (rfl : 92 + 3 = 95) (Nat.le_of_ble_eq_true rfl) rfl rfl ?_
      refine k_get 4 1 fg_X11_208 dX11_throwAt_95 (rfl : 95 + 3 = 98) (Nat.le_of_ble_eq_true rfl) rfl rfl ?_
      refine k_iload (i := 5) dX11_throwAt_98 (rfl : 98 + 2 = 100) rfl ?_
      refine k_callVv3 cv_X11_482 ⟨Nat.le_of_ble_eq_true rfl, Nat.le_of_ble_eq_true rfl⟩ (m_X7_enterThrow) dX11_throwAt_100 (rfl : 100 + 3 = 103) (Nat.le_of_ble_eq_true rfl) rfl rfl rfl ⟨Nat.le_of_ble_eq_true rfl, Nat.le_of_ble_eq_true rfl⟩ ?_
      refine k_iload (i := 4) dX11_throwAt_103 (rfl : 103 + 2 = 105) rfl ?_
      refine k_if_eq (tgt := 153) dX11_throwAt_105 (rfl : 105 + 3 = 108) (by decide) (fun b105 => ?_) (fun b105 => by exact absurd (by decide) b105)
      refine k_iload (i := 4) dX11_throwAt_153 (rfl : 153 + 2 = 155) rfl ?_
      refine k_iret rfl rfl dX11_throwAt_155 (Nat.le_of_ble_eq_true rfl) (Nat.le_of_ble_eq_true rfl) ?_
      exact kRt_of (congrArg (fun z => some (Value.int z)) (Eq.symm (Eq.trans (if_pos (show (pFind ((g_X4_fly x a2).2.2.1 0) ((((g_X4_fly x a2).1 0).2.2 0) (Int32.toNatClampNeg a1)) (Int32.toNatClampNeg ((g_X4_fly x a2).2.1 2)) 1) = (-1) from b37)) (if_neg (show ¬ (((g_X4_fly x a2).2.1 3) = 99) from b61))))) (congrArg (fun z => kTp (kHc z) r) (Eq.symm (Eq.trans (if_pos (show (pFind ((g_X4_fly x a2).2.2.1 0) ((((g_X4_fly x a2).1 0).2.2 0) (Int32.toNatClampNeg a1)) (Int32.toNatClampNeg ((g_X4_fly x a2).2.1 2)) 1) = (-1) from b37)) (if_neg (show ¬ (((g_X4_fly x a2).2.1 3) = 99) from b61)))))
    · refine k_iconst (v := 1) dX11_throwAt_64 (rfl : 64 + 1 = 65) (by decide) ?_
      refine k_goto (tgt := 69) dX11_throwAt_65 (by decide) ?_
      refine k_istore (i := 5) dX11_throwAt_69 (rfl : 69 + 2 = 71) (Nat.le_of_ble_eq_true rfl) ?_
      refine k_ls (ls2 := [.ref 0, .int a1, .int a2, .int (pFind ((g_X4_fly x a2).2.2.1 0) ((((g_X4_fly x a2).1 0).2.2 0) (Int32.toNatClampNeg a1)) (Int32.toNatClampNeg ((g_X4_fly x a2).2.1 2)) 1), .int 0, .int 1]) rfl ?_
      refine k_aload_n (i := 0) dX11_throwAt_71 (rfl : 71 + 1 = 72) rfl rfl ?_
      refine k_get 11 0 fg_X11_12 dX11_throwAt_72 (rfl : 72 + 3 = 75) (Nat.le_of_ble_eq_true rfl) rfl rfl ?_
      refine k_get 9 2 fg_X11_190 dX11_throwAt_75 (rfl : 75 + 3 = 78) (Nat.le_of_ble_eq_true rfl) rfl rfl ?_
      refine k_iload_n (i := 2) dX11_throwAt_78 (rfl : 78 + 1 = 79) rfl rfl ?_
      refine k_callSd1 cv_X11_479 ⟨Nat.le_of_ble_eq_true rfl, Nat.le_of_ble_eq_true rfl⟩ (m_X11_armOf) dX11_throwAt_79 (rfl : 79 + 3 = 82) rfl ⟨Nat.le_of_ble_eq_true rfl, Nat.le_of_ble_eq_true rfl⟩ ?_
      refine k_iload (i := 4) dX11_throwAt_82 (rfl : 82 + 2 = 84) rfl ?_
      refine k_if_eq (tgt := 91) dX11_throwAt_84 (rfl : 84 + 3 = 87) (by decide) (fun b84 => ?_) (fun b84 => by exact absurd (by decide) b84)
      refine k_aload_n (i := 0) dX11_throwAt_91 (rfl : 91 + 1 = 92) rfl rfl ?_
      refine k_get 11 4 fg_X11_32 dX11_throwAt_92 (rfl : 92 + 3 = 95) (Nat.le_of_ble_eq_true rfl) rfl rfl ?_
      refine k_get 4 1 fg_X11_208 dX11_throwAt_95 (rfl : 95 + 3 = 98) (Nat.le_of_ble_eq_true rfl) rfl rfl ?_
      refine k_iload (i := 5) dX11_throwAt_98 (rfl : 98 + 2 = 100) rfl ?_
      refine k_callVv3 cv_X11_482 ⟨Nat.le_of_ble_eq_true rfl, Nat.le_of_ble_eq_true rfl⟩ (m_X7_enterThrow) dX11_throwAt_100 (rfl : 100 + 3 = 103) (Nat.le_of_ble_eq_true rfl) rfl rfl rfl ⟨Nat.le_of_ble_eq_true rfl, Nat.le_of_ble_eq_true rfl⟩ ?_
      refine k_iload (i := 4) dX11_throwAt_103 (rfl : 103 + 2 = 105) rfl ?_
      refine k_if_eq (tgt := 153) dX11_throwAt_105 (rfl : 105 + 3 = 108) (by decide) (fun b105 => ?_) (fun b105 => by exact absurd (by decide) b105)
      refine k_iload (i := 4) dX11_throwAt_153 (rfl : 153 + 2 = 155) rfl ?_
      refine k_iret rfl rfl dX11_throwAt_155 (Nat.le_of_ble_eq_true rfl) (Nat.le_of_ble_eq_true rfl) ?_
      exact kRt_of (congrArg (fun z => some (Value.int z)) (Eq.symm (Eq.trans (if_pos (show (pFind ((g_X4_fly x a2).2.2.1 0) ((((g_X4_fly x a2).1 0).2.2 0) (Int32.toNatClampNeg a1)) (Int32.toNatClampNeg ((g_X4_fly x a2).2.1 2)) 1) = (-1) from b37)) (if_pos (show ((g_X4_fly x a2).2.1 3) = 99 from b61))))) (congrArg (fun z => kTp (kHc z) r) (Eq.symm (Eq.trans (if_pos (show (pFind ((g_X4_fly x a2).2.2.1 0) ((((g_X4_fly x a2).1 0).2.2 0) (Int32.toNatClampNeg a1)) (Int32.toNatClampNeg ((g_X4_fly x a2).2.1 2)) 1) = (-1) from b37)) (if_pos (show ((g_X4_fly x a2).2.1 3) = 99 from b61)))))
  · refine k_iconst (v := 1) dX11_throwAt_40 (rfl : 40 + 1 = 41) (by decide) ?_
    refine k_goto (tgt := 45) dX11_throwAt_41 (by decide) ?_
    refine k_istore (i := 4) dX11_throwAt_45 (rfl : 45 + 2 = 47) (Nat.le_of_ble_eq_true rfl) ?_
    refine k_ls (ls2 := [.ref 0, .int a1, .int a2, .int (pFind ((g_X4_fly x a2).2.2.1 0) ((((g_X4_fly x a2).1 0).2.2 0) (Int32.toNatClampNeg a1)) (Int32.toNatClampNeg ((g_X4_fly x a2).2.1 2)) 1), .int 1, .retAddr 0]) rfl ?_
    refine k_iload (i := 4) dX11_throwAt_47 (rfl : 47 + 2 = 49) rfl ?_
    refine k_if_ne (tgt := 68) dX11_throwAt_49 (rfl : 49 + 3 = 52) (by decide) (fun b49 => ?_) (fun b49 => by exact absurd b49 (by decide))
    refine k_iconst (v := 0) dX11_throwAt_68 (rfl : 68 + 1 = 69) (by decide) ?_
    refine k_istore (i := 5) dX11_throwAt_69 (rfl : 69 + 2 = 71) (Nat.le_of_ble_eq_true rfl) ?_
    refine k_ls (ls2 := [.ref 0, .int a1, .int a2, .int (pFind ((g_X4_fly x a2).2.2.1 0) ((((g_X4_fly x a2).1 0).2.2 0) (Int32.toNatClampNeg a1)) (Int32.toNatClampNeg ((g_X4_fly x a2).2.1 2)) 1), .int 1, .int 0]) rfl ?_
    refine k_aload_n (i := 0) dX11_throwAt_71 (rfl : 71 + 1 = 72) rfl rfl ?_
    refine k_get 11 0 fg_X11_12 dX11_throwAt_72 (rfl : 72 + 3 = 75) (Nat.le_of_ble_eq_true rfl) rfl rfl ?_
    refine k_get 9 2 fg_X11_190 dX11_throwAt_75 (rfl : 75 + 3 = 78) (Nat.le_of_ble_eq_true rfl) rfl rfl ?_
    refine k_iload_n (i := 2) dX11_throwAt_78 (rfl : 78 + 1 = 79) rfl rfl ?_
    refine k_callSd1 cv_X11_479 ⟨Nat.le_of_ble_eq_true rfl, Nat.le_of_ble_eq_true rfl⟩ (m_X11_armOf) dX11_throwAt_79 (rfl : 79 + 3 = 82) rfl ⟨Nat.le_of_ble_eq_true rfl, Nat.le_of_ble_eq_true rfl⟩ ?_
    refine k_iload (i := 4) dX11_throwAt_82 (rfl : 82 + 2 = 84) rfl ?_
    refine k_if_eq (tgt := 91) dX11_throwAt_84 (rfl : 84 + 3 = 87) (by decide) (fun b84 => by exact absurd b84 (by decide)) (fun b84 => ?_)
    refine k_iload_n (i := 3) dX11_throwAt_87 (rfl : 87 + 1 = 88) rfl rfl ?_
    refine k_goto (tgt := 98) dX11_throwAt_88 (by decide) ?_
    refine k_iload (i := 5) dX11_throwAt_98 (rfl : 98 + 2 = 100) rfl ?_
    refine k_callVv3 cv_X11_482 ⟨Nat.le_of_ble_eq_true rfl, Nat.le_of_ble_eq_true rfl⟩ (m_X7_enterThrow) dX11_throwAt_100 (rfl : 100 + 3 = 103) (Nat.le_of_ble_eq_true rfl) rfl rfl rfl ⟨Nat.le_of_ble_eq_true rfl, Nat.le_of_ble_eq_true rfl⟩ ?_
    refine k_iload (i := 4) dX11_throwAt_103 (rfl : 103 + 2 = 105) rfl ?_
    refine k_if_eq (tgt := 153) dX11_throwAt_105 (rfl : 105 + 3 = 108) (by decide) (fun b105 => by exact absurd b105 (by decide)) (fun b105 => ?_)
    refine k_aload_n (i := 0) dX11_throwAt_108 (rfl : 108 + 1 = 109) rfl rfl ?_
    refine k_get 11 0 fg_X11_12 dX11_throwAt_109 (rfl : 109 + 3 = 112) (Nat.le_of_ble_eq_true rfl) rfl rfl ?_
    refine k_get 9 2 fg_X11_190 dX11_throwAt_112 (rfl : 112 + 3 = 115) (Nat.le_of_ble_eq_true rfl) rfl rfl ?_
    refine k_get 7 8 fg_X11_194 dX11_throwAt_115 (rfl : 115 + 3 = 118) (Nat.le_of_ble_eq_true rfl) rfl rfl ?_
    refine k_iload_n (i := 1) dX11_throwAt_118 (rfl : 118 + 1 = 119) rfl rfl ?_
    refine k_dup2_11 dX11_throwAt_119 (rfl : 119 + 1 = 120) rfl rfl ?_
    refine k_iald dX11_throwAt_120 (rfl : 120 + 1 = 121) (Nat.le_of_ble_eq_true rfl) rfl hp ?_
    refine k_iconst (v := 1) dX11_throwAt_121 (rfl : 121 + 1 = 122) (by decide) ?_
    refine k_iadd dX11_throwAt_122 (rfl : 122 + 1 = 123) ?_
    refine k_iast dX11_throwAt_123 (rfl : 123 + 1 = 124) (Nat.le_of_ble_eq_true rfl) rfl hp ?_
    refine kf_R4 (f := (upd (((g_X7_enterThrow (g_X4_fly x a2) (f_X11_armOf a2) (pFind ((g_X4_fly x a2).2.2.1 0) ((((g_X4_fly x a2).1 0).2.2 0) (Int32.toNatClampNeg a1)) (Int32.toNatClampNeg ((g_X4_fly x a2).2.1 2)) 1) 0).1 0).2.2 4) (Int32.toNatClampNeg a1) (((((g_X7_enterThrow (g_X4_fly x a2) (f_X11_armOf a2) (pFind ((g_X4_fly x a2).2.2.1 0) ((((g_X4_fly x a2).1 0).2.2 0) (Int32.toNatClampNeg a1)) (Int32.toNatClampNeg ((g_X4_fly x a2).2.1 2)) 1) 0).1 0).2.2 4) (Int32.toNatClampNeg a1)) + 1))) rfl ?_
    refine k_aload_n (i := 0) dX11_throwAt_124 (rfl : 124 + 1 = 125) rfl rfl ?_
    refine k_get 11 0 fg_X11_12 dX11_throwAt_125 (rfl : 125 + 3 = 128) (Nat.le_of_ble_eq_true rfl) rfl rfl ?_
    refine k_get 9 1 fg_X11_260 dX11_throwAt_128 (rfl : 128 + 3 = 131) (Nat.le_of_ble_eq_true rfl) rfl rfl ?_
    refine k_iload_n (i := 1) dX11_throwAt_131 (rfl : 131 + 1 = 132) rfl rfl ?_
    refine k_aload_n (i := 0) dX11_throwAt_132 (rfl : 132 + 1 = 133) rfl rfl ?_
    refine k_get 11 0 fg_X11_12 dX11_throwAt_133 (rfl : 133 + 3 = 136) (Nat.le_of_ble_eq_true rfl) rfl rfl ?_
    refine k_get 9 1 fg_X11_260 dX11_throwAt_136 (rfl : 136 + 3 = 139) (Nat.le_of_ble_eq_true rfl) rfl rfl ?_
    refine k_get 3 0 fg_X11_309 dX11_throwAt_139 (rfl : 139 + 3 = 142) (Nat.le_of_ble_eq_true rfl) rfl rfl ?_
    refine k_iload_n (i := 3) dX11_throwAt_142 (rfl : 142 + 1 = 143) rfl rfl ?_
    refine k_iconst (v := 4) dX11_throwAt_143 (rfl : 143 + 1 = 144) (by decide) ?_
    refine k_idiv dX11_throwAt_144 (rfl : 144 + 1 = 145) (by decide) ?_
    refine k_iadd dX11_throwAt_145 (rfl : 145 + 1 = 146) ?_
    refine k_iload_n (i := 2) dX11_throwAt_146 (rfl : 146 + 1 = 147) rfl rfl ?_
    refine k_callSd1 cv_X11_479 ⟨Nat.le_of_ble_eq_true rfl, Nat.le_of_ble_eq_true rfl⟩ (m_X11_armOf) dX11_throwAt_147 (rfl : 147 + 3 = 150) rfl ⟨Nat.le_of_ble_eq_true rfl, Nat.le_of_ble_eq_true rfl⟩ ?_
    refine k_callVv3 cv_X11_486 ⟨Nat.le_of_ble_eq_true rfl, Nat.le_of_ble_eq_true rfl⟩ (m_X3_enterPlea (iv_nR (iv_throw (iv_fly iv)))) dX11_throwAt_150 (rfl : 150 + 3 = 153) (Nat.le_of_ble_eq_true rfl) rfl rfl rfl ⟨Nat.le_of_ble_eq_true rfl, Nat.le_of_ble_eq_true rfl⟩ ?_
    refine k_iload (i := 4) dX11_throwAt_153 (rfl : 153 + 2 = 155) rfl ?_
    refine k_iret rfl rfl dX11_throwAt_155 (Nat.le_of_ble_eq_true rfl) (Nat.le_of_ble_eq_true rfl) ?_
    exact kRt_of (congrArg (fun z => some (Value.int z)) (Eq.symm (if_neg (show ¬ ((pFind ((g_X4_fly x a2).2.2.1 0) ((((g_X4_fly x a2).1 0).2.2 0) (Int32.toNatClampNeg a1)) (Int32.toNatClampNeg ((g_X4_fly x a2).2.1 2)) 1) = (-1)) from b37)))) (congrArg (fun z => kTp (kHc z) r) (Eq.symm (if_neg (show ¬ ((pFind ((g_X4_fly x a2).2.2.1 0) ((((g_X4_fly x a2).1 0).2.2 0) (Int32.toNatClampNeg a1)) (Int32.toNatClampNeg ((g_X4_fly x a2).2.1 2)) 1) = (-1)) from b37))))
def f_X11_holdHearing (x : kK) (a1 : Int32) : Int32 := (f_X3_fineOf x a1)
def g_X11_holdHearing (x : kK) (a1 : Int32) : kK := (g_X3_passHour (g_X3_strike (nS (nS x 8 (((x.1 0).2.1 8) + (f_X3_fineOf x a1))) 9 (((x.1 0).2.1 9) + (f_X3_fineOf x a1))) a1))
set_option maxRecDepth 100000 in
set_option maxHeartbeats 4000000 in
theorem m_X11_holdHearing {x : kK} {r : kH} {a1 : Int32} (iv : kIv (x.1 0)) (hp : ¬ f_X3_hasPlea x a1 = 0) : kMet kX11_holdHearing false 0 0 [.ref 0, .int a1] (kTp (kHc x) r) 130 (kRt (some (.int (f_X11_holdHearing x a1))) (kTp (kHc (g_X11_holdHearing x a1)) r) 130) := by
  refine kMet.in (by decide) rfl rfl _ rfl ?_
  refine k_aload_n (i := 0) dX11_holdHearing_0 (rfl : 0 + 1 = 1) rfl rfl ?_
  refine k_get 11 0 fg_X11_12 dX11_holdHearing_1 (rfl : 1 + 3 = 4) (Nat.le_of_ble_eq_true rfl) rfl rfl ?_
  refine k_get 9 1 fg_X11_260 dX11_holdHearing_4 (rfl : 4 + 3 = 7) (Nat.le_of_ble_eq_true rfl) rfl rfl ?_
  refine k_iload_n (i := 1) dX11_holdHearing_7 (rfl : 7 + 1 = 8) rfl rfl ?_
  refine k_callVd1 cv_X11_490 ⟨Nat.le_of_ble_eq_true rfl, Nat.le_of_ble_eq_true rfl⟩ (m_X3_fineOf (kIv_pc iv hp)) dX11_holdHearing_8 (rfl : 8 + 3 = 11) (Nat.le_of_ble_eq_true rfl) rfl rfl rfl ⟨Nat.le_of_ble_eq_true rfl, Nat.le_of_ble_eq_true rfl⟩ ?_
  refine k_istore_n (i := 2) dX11_holdHearing_11 (rfl : 11 + 1 = 12) rfl (Nat.le_of_ble_eq_true rfl) ?_
  refine k_ls (ls2 := [.ref 0, .int a1, .int (f_X3_fineOf x a1)]) rfl ?_
  refine k_aload_n (i := 0) dX11_holdHearing_12 (rfl : 12 + 1 = 13) rfl rfl ?_
  refine k_get 11 0 fg_X11_12 dX11_holdHearing_13 (rfl : 13 + 3 = 16) (Nat.le_of_ble_eq_true rfl) rfl rfl ?_
  refine k_get 9 2 fg_X11_190 dX11_holdHearing_16 (rfl : 16 + 3 = 19) (Nat.le_of_ble_eq_true rfl) rfl rfl ?_
  refine k_dup dX11_holdHearing_19 (rfl : 19 + 1 = 20) rfl ?_
  refine k_get 7 1 fg_X11_312 dX11_holdHearing_20 (rfl : 20 + 3 = 23) (Nat.le_of_ble_eq_true rfl) rfl rfl ?_
  refine k_iload_n (i := 2) dX11_holdHearing_23 (rfl : 23 + 1 = 24) rfl rfl ?_
  refine k_iadd dX11_holdHearing_24 (rfl : 24 + 1 = 25) ?_
  refine k_put 7 1 fp_X11_312 dX11_holdHearing_25 (rfl : 25 + 3 = 28) (Nat.le_of_ble_eq_true rfl) rfl (Nat.le_of_ble_eq_true rfl) rfl rfl ?_
  refine kf_S7 8 (v := (((x.1 0).2.1 8) + (f_X3_fineOf x a1))) rfl rfl ?_
  refine k_aload_n (i := 0) dX11_holdHearing_28 (rfl : 28 + 1 = 29) rfl rfl ?_
  refine k_get 11 0 fg_X11_12 dX11_holdHearing_29 (rfl : 29 + 3 = 32) (Nat.le_of_ble_eq_true rfl) rfl rfl ?_
  refine k_get 9 2 fg_X11_190 dX11_holdHearing_32 (rfl : 32 + 3 = 35) (Nat.le_of_ble_eq_true rfl) rfl rfl ?_
  refine k_dup dX11_holdHearing_35 (rfl : 35 + 1 = 36) rfl ?_
  refine k_get 7 2 fg_X11_315 dX11_holdHearing_36 (rfl : 36 + 3 = 39) (Nat.le_of_ble_eq_true rfl) rfl rfl ?_
  refine k_iload_n (i := 2) dX11_holdHearing_39 (rfl : 39 + 1 = 40) rfl rfl ?_
  refine k_iadd dX11_holdHearing_40 (rfl : 40 + 1 = 41) ?_
  refine k_put 7 2 fp_X11_315 dX11_holdHearing_41 (rfl : 41 + 3 = 44) (Nat.le_of_ble_eq_true rfl) rfl (Nat.le_of_ble_eq_true rfl) rfl rfl ?_
  refine kf_S7 9 (v := (((x.1 0).2.1 9) + (f_X3_fineOf x a1))) rfl rfl ?_
  refine k_aload_n (i := 0) dX11_holdHearing_44 (rfl : 44 + 1 = 45) rfl rfl ?_
  refine k_get 11 0 fg_X11_12 dX11_holdHearing_45 (rfl : 45 + 3 = 48) (Nat.le_of_ble_eq_true rfl) rfl rfl ?_
  refine k_get 9 1 fg_X11_260 dX11_holdHearing_48 (rfl : 48 + 3 = 51) (Nat.le_of_ble_eq_true rfl) rfl rfl ?_
  refine k_iload_n (i := 1) dX11_holdHearing_51 (rfl : 51 + 1 = 52) rfl rfl ?_
  refine k_callVv1 cv_X11_493 ⟨Nat.le_of_ble_eq_true rfl, Nat.le_of_ble_eq_true rfl⟩ (m2_X3_strike (iv_nS (by decide) (iv_nS (by decide) iv)) (hp_nS (by decide) (hp_nS (by decide) hp))) dX11_holdHearing_52 (rfl : 52 + 3 = 55) (Nat.le_of_ble_eq_true rfl) rfl rfl rfl ⟨Nat.le_of_ble_eq_true rfl, Nat.le_of_ble_eq_true rfl⟩ ?_
  refine k_aload_n (i := 0) dX11_holdHearing_55 (rfl : 55 + 1 = 56) rfl rfl ?_
  refine k_get 11 0 fg_X11_12 dX11_holdHearing_56 (rfl : 56 + 3 = 59) (Nat.le_of_ble_eq_true rfl) rfl rfl ?_
  refine k_get 9 1 fg_X11_260 dX11_holdHearing_59 (rfl : 59 + 3 = 62) (Nat.le_of_ble_eq_true rfl) rfl rfl ?_
  refine k_callVd0 cv_X11_496 ⟨Nat.le_of_ble_eq_true rfl, Nat.le_of_ble_eq_true rfl⟩ (m_X3_passHour (iv_strike (iv_nS (by decide) (iv_nS (by decide) iv)) (hp_nS (by decide) (hp_nS (by decide) hp)))) dX11_holdHearing_62 (rfl : 62 + 3 = 65) (Nat.le_of_ble_eq_true rfl) rfl rfl rfl ⟨Nat.le_of_ble_eq_true rfl, Nat.le_of_ble_eq_true rfl⟩ ?_
  refine k_pop dX11_holdHearing_65 (rfl : 65 + 1 = 66) rfl ?_
  refine k_iload_n (i := 2) dX11_holdHearing_66 (rfl : 66 + 1 = 67) rfl rfl ?_
  refine k_iret rfl rfl dX11_holdHearing_67 (Nat.le_of_ble_eq_true rfl) (Nat.le_of_ble_eq_true rfl) ?_
  exact kRt_of rfl rfl
