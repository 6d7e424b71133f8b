/-- the history's numbers -/
def kHi (x : kK) : Prop := ∃ e c : Nat, e < 8 ∧ c ≤ 8 ∧ x.2.1 0 = nI e ∧ x.2.1 1 = nI c
def remS (x : kK) (s : Nat) : kK := g_rem x s (Int32.toNatClampNeg (x.2.1 0)) (Int32.toNatClampNeg (x.2.1 1))
def takS (x : kK) : kK := g_tak x (Int32.toNatClampNeg (x.2.1 0)) (Int32.toNatClampNeg (x.2.1 1))
theorem hi_kp {x y : kK} (h : kKp x y) (hh : kHi x) : kHi y := by
  obtain ⟨e, c, he, hc, h0, h1⟩ := hh
  exact ⟨e, c, he, hc, (h.2.1 0 (by decide) (by decide)).trans h0, (h.2.1 1 (by decide) (by decide)).trans h1⟩
theorem iv_kp {x y : kK} (h : kKp x y) (iv : kIv (x.1 0)) : kIv (y.1 0) := by rw [h.1]; exact iv
theorem rem_0 {x : kK} {s k : Nat} (hk : k < 3) : (remS x s).1 k = x.1 k := if_neg (show ¬ k = 3 + _ by omega)
theorem iv_rem {x : kK} {s : Nat} (iv : kIv (x.1 0)) : kIv ((remS x s).1 0) := by rw [rem_0 (by decide)]; exact iv
theorem m_rem0 {x : kK} {r : kH} (hh : kHi x) : kMet kX6_remember false 0 0 [.ref 28, .ref 1] (kTp (kHc x) r) 130 (kRt none (kTp (kHc (remS x 0)) r) 130) := by
  obtain ⟨e, c, he, hc, h0, h1⟩ := hh
  unfold remS
  rw [h0, h1, nI_clamp (by omega), nI_clamp (by omega)]
  exact m_X6_remember (s := 0) (by decide) he hc (by omega) h0 h1
theorem m_rem2 {x : kK} {r : kH} (hh : kHi x) : kMet kX6_remember false 0 0 [.ref 28, .ref 19] (kTp (kHc x) r) 130 (kRt none (kTp (kHc (remS x 2)) r) 130) := by
  obtain ⟨e, c, he, hc, h0, h1⟩ := hh
  unfold remS
  rw [h0, h1, nI_clamp (by omega), nI_clamp (by omega)]
  exact m_X6_remember (s := 2) (by decide) he hc (by omega) h0 h1
theorem m_tak {x : kK} {r : kH} (hh : kHi x ∧ ¬ x.2.1 1 = 0) : kMet kX6_takeBack false 0 0 [.ref 28, .ref 1] (kTp (kHc x) r) 130 (kRt none (kTp (kHc (takS x)) r) 130) := by
  obtain ⟨⟨e, c, he, hc, h0, h1⟩, hn⟩ := hh
  unfold takS
  rw [h0, h1, nI_clamp (by omega), nI_clamp (by omega)]
  refine m_X6_takeBack he hc ?_ h0 h1
  rcases Nat.eq_zero_or_pos c with q | q
  · subst q; exact absurd h1 hn
  · exact q
/-- the line's letters are chars -/
def kLc (x : kK) : Prop := ∀ j, j < 32 → narrow .char (.int (x.2.2.1 7 j)) = .int (x.2.2.1 7 j)
theorem li_in {x : kK} {a : Int32} (hl : kLn x) (h1 : ¬ a < 0) (h2 : a < x.2.1 7) : vp_in a 32 := by
  obtain ⟨n, hn, e⟩ := hl
  rw [e] at h2
  obtain ⟨i, hi, rfl⟩ := nI_of h1
  rcases Nat.lt_or_ge i n with q | q
  · exact vp_in_nI (by omega) (by omega)
  · exact absurd h2 (nI_nlt (a := i) (b := n) q (by omega))
theorem lc_at {x : kK} {a : Int32} (hc : kLc x) (h : vp_in a 32) : narrow .char (.int (x.2.2.1 7 a.toNatClampNeg)) = .int (x.2.2.1 7 a.toNatClampNeg) := by
  refine hc _ ?_
  have := vp_in_iff.mp h
  show a.toInt.toNat < 32
  omega
theorem thr_bool {x : kK} {a b : Int32} : narrow .boolean (.int (f_X11_throwAt x a b)) = .int (f_X11_throwAt x a b) := by
  unfold f_X11_throwAt
  repeat' split
  all_goals rfl
theorem sit_bool {x : kK} {a : Int32} : narrow .boolean (.int (f_X3_sitsAt x a)) = .int (f_X3_sitsAt x a) := by
  unfold f_X3_sitsAt
  repeat' split
  all_goals rfl
theorem fl_in {x : kK} {a : Int32} (hf : kFl x) (h1 : ¬ a < 0) (h2 : a ≤ x.2.1 2) : vp_in a 36 := by
  obtain ⟨n, hn, e⟩ := hf
  rw [e] at h2
  obtain ⟨i, hi, rfl⟩ := nI_of h1
  rcases Nat.lt_or_ge n i with q | q
  · exact absurd h2 (nI_ge (a := n) (b := i) q hi)
  · exact vp_in_nI (by omega) (by omega)
theorem flE_end (y : kK × Int32) : narrow .char (.int ((flE y).2.1 3)) = .int ((flE y).2.1 3) := by
  have e : (flE y).2.1 3 = (if y.2 = 0 then 116 else if (y.1.2.2.1 0) (y.1.2.1 2).toNatClampNeg = (y.1.1 0).2.1 0 then 99 else 103 : Int32) := by
    show upd y.1.2.1 3 _ 3 = _
    exact pk_us
  rw [e]
  split
  · rfl
  · split
    · rfl
    · rfl
theorem fly_end {x : kK} {a : Int32} : narrow .char (.int ((g_X4_fly x a).2.1 3)) = .int ((g_X4_fly x a).2.1 3) := flE_end (fly0 x a)
def o_X11_setTree (x : kK) (a1 : Int32) (a2 : Int32) (a3 : Int32) : kOut := if (f_X11_checkTree x a1 a2 a3) = 1 then (.inr "java/lang/IndexOutOfBoundsException") else (if (f_X11_checkTree x a1 a2 a3) = 4 then (.inr "java/lang/UnsupportedOperationException") else (.inl (some (.int (f_X11_plant (remS (g_X11_checkTree x a1 a2 a3) 0) a1 a2 a3)))))
def g_X11_setTree (x : kK) (a1 : Int32) (a2 : Int32) (a3 : Int32) : kK := if (f_X11_checkTree x a1 a2 a3) = 1 then (g_X11_checkTree x a1 a2 a3) else (if (f_X11_checkTree x a1 a2 a3) = 4 then (g_X11_checkTree x a1 a2 a3) else (g_X11_plant (remS (g_X11_checkTree x a1 a2 a3) 0) a1 a2 a3))
set_option maxRecDepth 100000 in
set_option maxHeartbeats 4000000 in
theorem m_X11_setTree {x : kK} {r : kH} (iv : kIv (x.1 0)) {a1 : Int32} {a2 : Int32} {a3 : Int32} (hh : kHi x) : kMet kX11_setTree false 1 6 [.ref 0, .int a1, .int a2, .int a3] (kTp (kHc x) r) 130 (kRo (o_X11_setTree x a1 a2 a3) (kTp (kHc (g_X11_setTree x a1 a2 a3)) r) 130) := by
  refine kMet.in (by decide) rfl rfl _ rfl ?_
  refine k_aload_n (i := 0) dX11_setTree_0 (rfl : 0 + 1 = 1) rfl rfl ?_
  refine k_iload_n (i := 1) dX11_setTree_1 (rfl : 1 + 1 = 2) rfl rfl ?_
  refine k_iload_n (i := 2) dX11_setTree_2 (rfl : 2 + 1 = 3) rfl rfl ?_
  refine k_iload_n (i := 3) dX11_setTree_3 (rfl : 3 + 1 = 4) rfl rfl ?_
  refine k_callVd3 cv_X11_68 ⟨Nat.le_of_ble_eq_true rfl, Nat.le_of_ble_eq_true rfl⟩ (m_X11_checkTree iv) dX11_setTree_4 (rfl : 4 + 3 = 7) (Nat.le_of_ble_eq_true rfl) rfl rfl rfl ⟨Nat.le_of_ble_eq_true rfl, Nat.le_of_ble_eq_true rfl⟩ ?_
  refine k_istore (i := 4) dX11_setTree_7 (rfl : 7 + 2 = 9) (Nat.le_of_ble_eq_true rfl) ?_
  refine k_ls (ls2 := [.ref 0, .int a1, .int a2, .int a3, .int (f_X11_checkTree x a1 a2 a3)]) rfl ?_
  refine k_iload (i := 4) dX11_setTree_9 (rfl : 9 + 2 = 11) rfl ?_
  refine k_iconst (v := 1) dX11_setTree_11 (rfl : 11 + 1 = 12) (by decide) ?_
  refine k_icmp_ne (tgt := 25) dX11_setTree_12 (rfl : 12 + 3 = 15) (by decide) (fun b12 => ?_) (fun b12 => ?_)
  · refine k_iload (i := 4) dX11_setTree_25 (rfl : 25 + 2 = 27) rfl ?_
    refine k_iconst (v := 4) dX11_setTree_27 (rfl : 27 + 1 = 28) (by decide) ?_
    refine k_icmp_ne (tgt := 41) dX11_setTree_28 (rfl : 28 + 3 = 31) (by decide) (fun b28 => ?_) (fun b28 => ?_)
    · refine k_aload_n (i := 0) dX11_setTree_41 (rfl : 41 + 1 = 42) rfl rfl ?_
      refine k_get 11 3 fg_X11_25 dX11_setTree_42 (rfl : 42 + 3 = 45) (Nat.le_of_ble_eq_true rfl) rfl rfl ?_
      refine k_aload_n (i := 0) dX11_setTree_45 (rfl : 45 + 1 = 46) rfl rfl ?_
      refine k_get 11 0 fg_X11_12 dX11_setTree_46 (rfl : 46 + 3 = 49) (Nat.le_of_ble_eq_true rfl) rfl rfl ?_
      refine k_callVv1 cv_X11_84 ⟨Nat.le_of_ble_eq_true rfl, Nat.le_of_ble_eq_true rfl⟩ (m_rem0 (hi_kp kp_checkTree hh)) dX11_setTree_49 (rfl : 49 + 3 = 52) (Nat.le_of_ble_eq_true rfl) rfl rfl rfl ⟨Nat.le_of_ble_eq_true rfl, Nat.le_of_ble_eq_true rfl⟩ ?_
      refine k_aload_n (i := 0) dX11_setTree_52 (rfl : 52 + 1 = 53) rfl rfl ?_
      refine k_iload_n (i := 1) dX11_setTree_53 (rfl : 53 + 1 = 54) rfl rfl ?_
      refine k_iload_n (i := 2) dX11_setTree_54 (rfl : 54 + 1 = 55) rfl rfl ?_
      refine k_iload_n (i := 3) dX11_setTree_55 (rfl : 55 + 1 = 56) rfl rfl ?_
      refine k_callVd3 cv_X11_88 ⟨Nat.le_of_ble_eq_true rfl, Nat.le_of_ble_eq_true rfl⟩ (m_X11_plant) dX11_setTree_56 (rfl : 56 + 3 = 59) (Nat.le_of_ble_eq_true rfl) rfl rfl rfl ⟨Nat.le_of_ble_eq_true rfl, Nat.le_of_ble_eq_true rfl⟩ ?_
      refine k_iret rfl rfl dX11_setTree_59 (Nat.le_of_ble_eq_true rfl) (Nat.le_of_ble_eq_true rfl) ?_
      exact kRo_of (Eq.symm (Eq.trans (if_neg (show ¬ ((f_X11_checkTree x a1 a2 a3) = 1) from b12)) (if_neg (show ¬ ((f_X11_checkTree x a1 a2 a3) = 4) from b28)))) (congrArg (fun z => kTp (kHc z) r) (Eq.symm (Eq.trans (if_neg (show ¬ ((f_X11_checkTree x a1 a2 a3) = 1) from b12)) (if_neg (show ¬ ((f_X11_checkTree x a1 a2 a3) = 4) from b28)))))
    · refine k_throw th_X11_79_83 tx_X11_81 rfl dX11_setTree_31 dX11_setTree_34 dX11_setTree_35 dX11_setTree_37 dX11_setTree_40 (Nat.le_of_ble_eq_true rfl) (Nat.le_of_ble_eq_true rfl) ⟨(Nat.le_of_ble_eq_true rfl), (Nat.le_of_ble_eq_true rfl)⟩ (Nat.le_of_ble_eq_true rfl) (Nat.le_of_ble_eq_true rfl) ?_
      exact kRo_of (Eq.symm (Eq.trans (if_neg (show ¬ ((f_X11_checkTree x a1 a2 a3) = 1) from b12)) (if_pos (show (f_X11_checkTree x a1 a2 a3) = 4 from b28)))) (congrArg (fun z => kTp (kHc z) r) (Eq.symm (Eq.trans (if_neg (show ¬ ((f_X11_checkTree x a1 a2 a3) = 1) from b12)) (if_pos (show (f_X11_checkTree x a1 a2 a3) = 4 from b28)))))
  · refine k_throw th_X11_72_76 tx_X11_74 rfl dX11_setTree_15 dX11_setTree_18 dX11_setTree_19 dX11_setTree_21 dX11_setTree_24 (Nat.le_of_ble_eq_true rfl) (Nat.le_of_ble_eq_true rfl) ⟨(Nat.le_of_ble_eq_true rfl), (Nat.le_of_ble_eq_true rfl)⟩ (Nat.le_of_ble_eq_true rfl) (Nat.le_of_ble_eq_true rfl) ?_
    exact kRo_of (Eq.symm (if_pos (show (f_X11_checkTree x a1 a2 a3) = 1 from b12))) (congrArg (fun z => kTp (kHc z) r) (Eq.symm (if_pos (show (f_X11_checkTree x a1 a2 a3) = 1 from b12))))
def o_X11_setBench (x : kK) (a1 : Int32) (a2 : Int32) : kOut := if (f_X11_checkBench x a1 a2) = 1 then (.inr "java/lang/IndexOutOfBoundsException") else (if (f_X11_checkBench x a1 a2) = 4 then (.inr "java/lang/UnsupportedOperationException") else (.inl (some (.int (f_X11_placeBench (remS (g_X11_checkBench x a1 a2) 0) a1 a2)))))
def g_X11_setBench (x : kK) (a1 : Int32) (a2 : Int32) : kK := if (f_X11_checkBench x a1 a2) = 1 then (g_X11_checkBench x a1 a2) else (if (f_X11_checkBench x a1 a2) = 4 then (g_X11_checkBench x a1 a2) else (g_X11_placeBench (remS (g_X11_checkBench x a1 a2) 0) a1 a2))
set_option maxRecDepth 100000 in
set_option maxHeartbeats 4000000 in
theorem m_X11_setBench {x : kK} {r : kH} (iv : kIv (x.1 0)) {a1 : Int32} {a2 : Int32} (hh : kHi x) : kMet kX11_setBench false 1 6 [.ref 0, .int a1, .int a2] (kTp (kHc x) r) 130 (kRo (o_X11_setBench x a1 a2) (kTp (kHc (g_X11_setBench x a1 a2)) r) 130) := by
  refine kMet.in (by decide) rfl rfl _ rfl ?_
  refine k_aload_n (i := 0) dX11_setBench_0 (rfl : 0 + 1 = 1) rfl rfl ?_
  refine k_iload_n (i := 1) dX11_setBench_1 (rfl : 1 + 1 = 2) rfl rfl ?_
  refine k_iload_n (i := 2) dX11_setBench_2 (rfl : 2 + 1 = 3) rfl rfl ?_
  refine k_callVd2 cv_X11_91 ⟨Nat.le_of_ble_eq_true rfl, Nat.le_of_ble_eq_true rfl⟩ (m_X11_checkBench iv) dX11_setBench_3 (rfl : 3 + 3 = 6) (Nat.le_of_ble_eq_true rfl) rfl rfl rfl ⟨Nat.le_of_ble_eq_true rfl, Nat.le_of_ble_eq_true rfl⟩ ?_
  refine k_istore_n (i := 3) dX11_setBench_6 (rfl : 6 + 1 = 7) rfl (Nat.le_of_ble_eq_true rfl) ?_
  refine k_ls (ls2 := [.ref 0, .int a1, .int a2, .int (f_X11_checkBench x a1 a2)]) rfl ?_
  refine k_iload_n (i := 3) dX11_setBench_7 (rfl : 7 + 1 = 8) rfl rfl ?_
  refine k_iconst (v := 1) dX11_setBench_8 (rfl : 8 + 1 = 9) (by decide) ?_
  refine k_icmp_ne (tgt := 22) dX11_setBench_9 (rfl : 9 + 3 = 12) (by decide) (fun b9 => ?_) (fun b9 => ?_)
  · refine k_iload_n (i := 3) dX11_setBench_22 (rfl : 22 + 1 = 23) rfl rfl ?_
    refine k_iconst (v := 4) dX11_setBench_23 (rfl : 23 + 1 = 24) (by decide) ?_
    refine k_icmp_ne (tgt := 37) dX11_setBench_24 (rfl : 24 + 3 = 27) (by decide) (fun b24 => ?_) (fun b24 => ?_)
    · refine k_aload_n (i := 0) dX11_setBench_37 (rfl : 37 + 1 = 38) rfl rfl ?_
      refine k_get 11 3 fg_X11_25 dX11_setBench_38 (rfl : 38 + 3 = 41) (Nat.le_of_ble_eq_true rfl) rfl rfl ?_
      refine k_aload_n (i := 0) dX11_setBench_41 (rfl : 41 + 1 = 42) rfl rfl ?_
      refine k_get 11 0 fg_X11_12 dX11_setBench_42 (rfl : 42 + 3 = 45) (Nat.le_of_ble_eq_true rfl) rfl rfl ?_
      refine k_callVv1 cv_X11_84 ⟨Nat.le_of_ble_eq_true rfl, Nat.le_of_ble_eq_true rfl⟩ (m_rem0 (hi_kp kp_checkBench hh)) dX11_setBench_45 (rfl : 45 + 3 = 48) (Nat.le_of_ble_eq_true rfl) rfl rfl rfl ⟨Nat.le_of_ble_eq_true rfl, Nat.le_of_ble_eq_true rfl⟩ ?_
      refine k_aload_n (i := 0) dX11_setBench_48 (rfl : 48 + 1 = 49) rfl rfl ?_
      refine k_iload_n (i := 1) dX11_setBench_49 (rfl : 49 + 1 = 50) rfl rfl ?_
      refine k_iload_n (i := 2) dX11_setBench_50 (rfl : 50 + 1 = 51) rfl rfl ?_
      refine k_callVd2 cv_X11_97 ⟨Nat.le_of_ble_eq_true rfl, Nat.le_of_ble_eq_true rfl⟩ (m_X11_placeBench) dX11_setBench_51 (rfl : 51 + 3 = 54) (Nat.le_of_ble_eq_true rfl) rfl rfl rfl ⟨Nat.le_of_ble_eq_true rfl, Nat.le_of_ble_eq_true rfl⟩ ?_
      refine k_iret rfl rfl dX11_setBench_54 (Nat.le_of_ble_eq_true rfl) (Nat.le_of_ble_eq_true rfl) ?_
      exact kRo_of (Eq.symm (Eq.trans (if_neg (show ¬ ((f_X11_checkBench x a1 a2) = 1) from b9)) (if_neg (show ¬ ((f_X11_checkBench x a1 a2) = 4) from b24)))) (congrArg (fun z => kTp (kHc z) r) (Eq.symm (Eq.trans (if_neg (show ¬ ((f_X11_checkBench x a1 a2) = 1) from b9)) (if_neg (show ¬ ((f_X11_checkBench x a1 a2) = 4) from b24)))))
    · refine k_throw th_X11_79_83 tx_X11_95 rfl dX11_setBench_27 dX11_setBench_30 dX11_setBench_31 dX11_setBench_33 dX11_setBench_36 (Nat.le_of_ble_eq_true rfl) (Nat.le_of_ble_eq_true rfl) ⟨(Nat.le_of_ble_eq_true rfl), (Nat.le_of_ble_eq_true rfl)⟩ (Nat.le_of_ble_eq_true rfl) (Nat.le_of_ble_eq_true rfl) ?_
      exact kRo_of (Eq.symm (Eq.trans (if_neg (show ¬ ((f_X11_checkBench x a1 a2) = 1) from b9)) (if_pos (show (f_X11_checkBench x a1 a2) = 4 from b24)))) (congrArg (fun z => kTp (kHc z) r) (Eq.symm (Eq.trans (if_neg (show ¬ ((f_X11_checkBench x a1 a2) = 1) from b9)) (if_pos (show (f_X11_checkBench x a1 a2) = 4 from b24)))))
  · refine k_throw th_X11_72_76 tx_X11_74 rfl dX11_setBench_12 dX11_setBench_15 dX11_setBench_16 dX11_setBench_18 dX11_setBench_21 (Nat.le_of_ble_eq_true rfl) (Nat.le_of_ble_eq_true rfl) ⟨(Nat.le_of_ble_eq_true rfl), (Nat.le_of_ble_eq_true rfl)⟩ (Nat.le_of_ble_eq_true rfl) (Nat.le_of_ble_eq_true rfl) ?_
    exact kRo_of (Eq.symm (if_pos (show (f_X11_checkBench x a1 a2) = 1 from b9))) (congrArg (fun z => kTp (kHc z) r) (Eq.symm (if_pos (show (f_X11_checkBench x a1 a2) = 1 from b9))))
def f_X11_treeBits (x : kK)  : Int64 := (x.1 0).1
set_option maxRecDepth 100000 in
set_option maxHeartbeats 4000000 in
theorem m_X11_treeBits {x : kK} {r : kH} : kMet kX11_treeBits false 0 0 [.ref 0] (kTp (kHc x) r) 130 (kRt (some (.long (f_X11_treeBits x ))) (kTp (kHc x) r) 130) := by
  refine kMet.in (by decide) rfl rfl _ rfl ?_
  refine k_aload_n (i := 0) dX11_treeBits_0 (rfl : 0 + 1 = 1) rfl rfl ?_
  refine k_get 11 0 fg_X11_12 dX11_treeBits_1 (rfl : 1 + 3 = 4) (Nat.le_of_ble_eq_true rfl) rfl rfl ?_
  refine k_get 9 0 fg_X11_100 dX11_treeBits_4 (rfl : 4 + 3 = 7) (Nat.le_of_ble_eq_true rfl) rfl rfl ?_
  refine k_get 10 0 fg_X11_104 dX11_treeBits_7 (rfl : 7 + 3 = 10) (Nat.le_of_ble_eq_true rfl) rfl rfl ?_
  refine k_lret rfl dX11_treeBits_10 (Nat.le_of_ble_eq_true rfl) (Nat.le_of_ble_eq_true rfl) ?_
  exact kRt_of rfl rfl
def f_X11_turnedTrees (x : kK)  : Int64 := (f_X10_turnedByExchange x )
set_option maxRecDepth 100000 in
set_option maxHeartbeats 4000000 in
theorem m_X11_turnedTrees {x : kK} {r : kH} : kMet kX11_turnedTrees false 0 0 [.ref 0] (kTp (kHc x) r) 130 (kRt (some (.long (f_X11_turnedTrees x ))) (kTp (kHc x) r) 130) := by
  refine kMet.in (by decide) rfl rfl _ rfl ?_
  refine k_aload_n (i := 0) dX11_turnedTrees_0 (rfl : 0 + 1 = 1) rfl rfl ?_
  refine k_get 11 0 fg_X11_12 dX11_turnedTrees_1 (rfl : 1 + 3 = 4) (Nat.le_of_ble_eq_true rfl) rfl rfl ?_
  refine k_get 9 0 fg_X11_100 dX11_turnedTrees_4 (rfl : 4 + 3 = 7) (Nat.le_of_ble_eq_true rfl) rfl rfl ?_
  refine k_callVd0 cv_X11_110 ⟨Nat.le_of_ble_eq_true rfl, Nat.le_of_ble_eq_true rfl⟩ (m_X10_turnedByExchange) dX11_turnedTrees_7 (rfl : 7 + 3 = 10) (Nat.le_of_ble_eq_true rfl) rfl rfl rfl ⟨Nat.le_of_ble_eq_true rfl, Nat.le_of_ble_eq_true rfl⟩ ?_
  refine k_lret rfl dX11_turnedTrees_10 (Nat.le_of_ble_eq_true rfl) (Nat.le_of_ble_eq_true rfl) ?_
  exact kRt_of rfl rfl
def f_X11_turnedTreesByCells (x : kK)  : Int64 := (tcO (x.1 0).1 8 0 0)
set_option maxRecDepth 100000 in
set_option maxHeartbeats 4000000 in
theorem m_X11_turnedTreesByCells {x : kK} {r : kH} : kMet kX11_turnedTreesByCells false 0 0 [.ref 0] (kTp (kHc x) r) 130 (kRt (some (.long (f_X11_turnedTreesByCells x ))) (kTp (kHc x) r) 130) := by
  refine kMet.in (by decide) rfl rfl _ rfl ?_
  refine k_aload_n (i := 0) dX11_turnedTreesByCells_0 (rfl : 0 + 1 = 1) rfl rfl ?_
  refine k_get 11 0 fg_X11_12 dX11_turnedTreesByCells_1 (rfl : 1 + 3 = 4) (Nat.le_of_ble_eq_true rfl) rfl rfl ?_
  refine k_get 9 0 fg_X11_100 dX11_turnedTreesByCells_4 (rfl : 4 + 3 = 7) (Nat.le_of_ble_eq_true rfl) rfl rfl ?_
  refine k_callVd0 cv_X11_114 ⟨Nat.le_of_ble_eq_true rfl, Nat.le_of_ble_eq_true rfl⟩ (m_X10_turnedCellByCell) dX11_turnedTreesByCells_7 (rfl : 7 + 3 = 10) (Nat.le_of_ble_eq_true rfl) rfl rfl rfl ⟨Nat.le_of_ble_eq_true rfl, Nat.le_of_ble_eq_true rfl⟩ ?_
  refine k_lret rfl dX11_turnedTreesByCells_10 (Nat.le_of_ble_eq_true rfl) (Nat.le_of_ble_eq_true rfl) ?_
  exact kRt_of rfl rfl
def o_X11_reach (x : kK) (a1 : Int32) (a2 : Int32) : kOut := if (f_X11_isCell a1 a2) = 0 then (.inr "java/lang/IndexOutOfBoundsException") else (.inl (some (.long (cbs (x.1 0).1 64 (((1 : Int64) <<< (((f_X11_cellAt a1 a2)).toInt64 &&& 63)) &&& ((x.1 0).1 ^^^ (-1)))))))
set_option maxRecDepth 100000 in
set_option maxHeartbeats 4000000 in
theorem m_X11_reach {x : kK} {r : kH} {a1 : Int32} {a2 : Int32} : kMet kX11_reach false 1 6 [.ref 0, .int a1, .int a2] (kTp (kHc x) r) 130 (kRo (o_X11_reach x a1 a2) (kTp (kHc x) r) 130) := by
  refine kMet.in (by decide) rfl rfl _ rfl ?_
  refine k_iload_n (i := 1) dX11_reach_0 (rfl : 0 + 1 = 1) rfl rfl ?_
  refine k_iload_n (i := 2) dX11_reach_1 (rfl : 1 + 1 = 2) rfl rfl ?_
  refine k_callSd2 cv_X11_117 ⟨Nat.le_of_ble_eq_true rfl, Nat.le_of_ble_eq_true rfl⟩ (m_X11_isCell) dX11_reach_2 (rfl : 2 + 3 = 5) rfl ⟨Nat.le_of_ble_eq_true rfl, Nat.le_of_ble_eq_true rfl⟩ ?_
  refine k_if_ne (tgt := 18) dX11_reach_5 (rfl : 5 + 3 = 8) (by decide) (fun b5 => ?_) (fun b5 => ?_)
  · refine k_aload_n (i := 0) dX11_reach_18 (rfl : 18 + 1 = 19) rfl rfl ?_
    refine k_get 11 0 fg_X11_12 dX11_reach_19 (rfl : 19 + 3 = 22) (Nat.le_of_ble_eq_true rfl) rfl rfl ?_
    refine k_get 9 0 fg_X11_100 dX11_reach_22 (rfl : 22 + 3 = 25) (Nat.le_of_ble_eq_true rfl) rfl rfl ?_
    refine k_iload_n (i := 1) dX11_reach_25 (rfl : 25 + 1 = 26) rfl rfl ?_
    refine k_iload_n (i := 2) dX11_reach_26 (rfl : 26 + 1 = 27) rfl rfl ?_
    refine k_callSd2 cv_X11_121 ⟨Nat.le_of_ble_eq_true rfl, Nat.le_of_ble_eq_true rfl⟩ (m_X11_cellAt) dX11_reach_27 (rfl : 27 + 3 = 30) rfl ⟨Nat.le_of_ble_eq_true rfl, Nat.le_of_ble_eq_true rfl⟩ ?_
    refine k_callVd1 cv_X11_124 ⟨Nat.le_of_ble_eq_true rfl, Nat.le_of_ble_eq_true rfl⟩ (m_X10_connectedBySets) dX11_reach_30 (rfl : 30 + 3 = 33) (Nat.le_of_ble_eq_true rfl) rfl rfl rfl ⟨Nat.le_of_ble_eq_true rfl, Nat.le_of_ble_eq_true rfl⟩ ?_
    refine k_lret rfl dX11_reach_33 (Nat.le_of_ble_eq_true rfl) (Nat.le_of_ble_eq_true rfl) ?_
    exact kRo_of (Eq.symm (if_neg (show ¬ ((f_X11_isCell a1 a2) = 0) from b5))) rfl
  · refine k_throw th_X11_72_76 tx_X11_74 rfl dX11_reach_8 dX11_reach_11 dX11_reach_12 dX11_reach_14 dX11_reach_17 (Nat.le_of_ble_eq_true rfl) (Nat.le_of_ble_eq_true rfl) ⟨(Nat.le_of_ble_eq_true rfl), (Nat.le_of_ble_eq_true rfl)⟩ (Nat.le_of_ble_eq_true rfl) (Nat.le_of_ble_eq_true rfl) ?_
    exact kRo_of (Eq.symm (if_pos (show (f_X11_isCell a1 a2) = 0 from b5))) rfl
def o_X11_reachByQueue (x : kK) (a1 : Int32) (a2 : Int32) : kOut := if (f_X11_isCell a1 a2) = 0 then (.inr "java/lang/IndexOutOfBoundsException") else (.inl (some (.long (f_X11_connectedByQueue x (f_X11_cellAt a1 a2)))))
def g_X11_reachByQueue (x : kK) (a1 : Int32) (a2 : Int32) : kK := if (f_X11_isCell a1 a2) = 0 then x else (g_X11_connectedByQueue x (f_X11_cellAt a1 a2))
set_option maxRecDepth 100000 in
set_option maxHeartbeats 4000000 in
theorem m_X11_reachByQueue {x : kK} {r : kH} {a1 : Int32} {a2 : Int32} : kMet kX11_reachByQueue false 1 6 [.ref 0, .int a1, .int a2] (kTp (kHc x) r) 130 (kRo (o_X11_reachByQueue x a1 a2) (kTp (kHc (g_X11_reachByQueue x a1 a2)) r) 130) := by
  refine kMet.in (by decide) rfl rfl _ rfl ?_
  refine k_iload_n (i := 1) dX11_reachByQueue_0 (rfl : 0 + 1 = 1) rfl rfl ?_
  refine k_iload_n (i := 2) dX11_reachByQueue_1 (rfl : 1 + 1 = 2) rfl rfl ?_
  refine k_callSd2 cv_X11_117 ⟨Nat.le_of_ble_eq_true rfl, Nat.le_of_ble_eq_true rfl⟩ (m_X11_isCell) dX11_reachByQueue_2 (rfl : 2 + 3 = 5) rfl ⟨Nat.le_of_ble_eq_true rfl, Nat.le_of_ble_eq_true rfl⟩ ?_
  refine k_if_ne (tgt := 18) dX11_reachByQueue_5 (rfl : 5 + 3 = 8) (by decide) (fun b5 => ?_) (fun b5 => ?_)
  · refine k_aload_n (i := 0) dX11_reachByQueue_18 (rfl : 18 + 1 = 19) rfl rfl ?_
    refine k_iload_n (i := 1) dX11_reachByQueue_19 (rfl : 19 + 1 = 20) rfl rfl ?_
    refine k_iload_n (i := 2) dX11_reachByQueue_20 (rfl : 20 + 1 = 21) rfl rfl ?_
    refine k_callSd2 cv_X11_121 ⟨Nat.le_of_ble_eq_true rfl, Nat.le_of_ble_eq_true rfl⟩ (m_X11_cellAt) dX11_reachByQueue_21 (rfl : 21 + 3 = 24) rfl ⟨Nat.le_of_ble_eq_true rfl, Nat.le_of_ble_eq_true rfl⟩ ?_
    refine k_callVd1 cv_X11_128 ⟨Nat.le_of_ble_eq_true rfl, Nat.le_of_ble_eq_true rfl⟩ (m_X11_connectedByQueue) dX11_reachByQueue_24 (rfl : 24 + 3 = 27) (Nat.le_of_ble_eq_true rfl) rfl rfl rfl ⟨Nat.le_of_ble_eq_true rfl, Nat.le_of_ble_eq_true rfl⟩ ?_
    refine k_lret rfl dX11_reachByQueue_27 (Nat.le_of_ble_eq_true rfl) (Nat.le_of_ble_eq_true rfl) ?_
    exact kRo_of (Eq.symm (if_neg (show ¬ ((f_X11_isCell a1 a2) = 0) from b5))) (congrArg (fun z => kTp (kHc z) r) (Eq.symm (if_neg (show ¬ ((f_X11_isCell a1 a2) = 0) from b5))))
  · refine k_throw th_X11_72_76 tx_X11_74 rfl dX11_reachByQueue_8 dX11_reachByQueue_11 dX11_reachByQueue_12 dX11_reachByQueue_14 dX11_reachByQueue_17 (Nat.le_of_ble_eq_true rfl) (Nat.le_of_ble_eq_true rfl) ⟨(Nat.le_of_ble_eq_true rfl), (Nat.le_of_ble_eq_true rfl)⟩ (Nat.le_of_ble_eq_true rfl) (Nat.le_of_ble_eq_true rfl) ?_
    exact kRo_of (Eq.symm (if_pos (show (f_X11_isCell a1 a2) = 0 from b5))) (congrArg (fun z => kTp (kHc z) r) (Eq.symm (if_pos (show (f_X11_isCell a1 a2) = 0 from b5))))
def o_X11_setWind (x : kK) (a1 : Int32) (a2 : Int32) : kOut := if (f_X11_checkWind a1 a2) = 0 then (.inl (some (.int (f_X11_turnWind (remS x 0) a1 a2)))) else (.inr "java/lang/IllegalArgumentException")
def g_X11_setWind (x : kK) (a1 : Int32) (a2 : Int32) : kK := if (f_X11_checkWind a1 a2) = 0 then (g_X11_turnWind (remS x 0) a1 a2) else x
set_option maxRecDepth 100000 in
set_option maxHeartbeats 4000000 in
theorem m_X11_setWind {x : kK} {r : kH} {a1 : Int32} {a2 : Int32} (hh : kHi x) : kMet kX11_setWind false 1 6 [.ref 0, .int a1, .int a2] (kTp (kHc x) r) 130 (kRo (o_X11_setWind x a1 a2) (kTp (kHc (g_X11_setWind x a1 a2)) r) 130) := by
  refine kMet.in (by decide) rfl rfl _ rfl ?_
  refine k_aload_n (i := 0) dX11_setWind_0 (rfl : 0 + 1 = 1) rfl rfl ?_
  refine k_iload_n (i := 1) dX11_setWind_1 (rfl : 1 + 1 = 2) rfl rfl ?_
  refine k_iload_n (i := 2) dX11_setWind_2 (rfl : 2 + 1 = 3) rfl rfl ?_
  refine k_callVd2 cv_X11_131 ⟨Nat.le_of_ble_eq_true rfl, Nat.le_of_ble_eq_true rfl⟩ (m_X11_checkWind) dX11_setWind_3 (rfl : 3 + 3 = 6) (Nat.le_of_ble_eq_true rfl) rfl rfl rfl ⟨Nat.le_of_ble_eq_true rfl, Nat.le_of_ble_eq_true rfl⟩ ?_
  refine k_if_eq (tgt := 19) dX11_setWind_6 (rfl : 6 + 3 = 9) (by decide) (fun b6 => ?_) (fun b6 => ?_)
  · refine k_aload_n (i := 0) dX11_setWind_19 (rfl : 19 + 1 = 20) rfl rfl ?_
    refine k_get 11 3 fg_X11_25 dX11_setWind_20 (rfl : 20 + 3 = 23) (Nat.le_of_ble_eq_true rfl) rfl rfl ?_
    refine k_aload_n (i := 0) dX11_setWind_23 (rfl : 23 + 1 = 24) rfl rfl ?_
    refine k_get 11 0 fg_X11_12 dX11_setWind_24 (rfl : 24 + 3 = 27) (Nat.le_of_ble_eq_true rfl) rfl rfl ?_
    refine k_callVv1 cv_X11_84 ⟨Nat.le_of_ble_eq_true rfl, Nat.le_of_ble_eq_true rfl⟩ (m_rem0 hh) dX11_setWind_27 (rfl : 27 + 3 = 30) (Nat.le_of_ble_eq_true rfl) rfl rfl rfl ⟨Nat.le_of_ble_eq_true rfl, Nat.le_of_ble_eq_true rfl⟩ ?_
    refine k_aload_n (i := 0) dX11_setWind_30 (rfl : 30 + 1 = 31) rfl rfl ?_
    refine k_iload_n (i := 1) dX11_setWind_31 (rfl : 31 + 1 = 32) rfl rfl ?_
    refine k_iload_n (i := 2) dX11_setWind_32 (rfl : 32 + 1 = 33) rfl rfl ?_
    refine k_callVd2 cv_X11_139 ⟨Nat.le_of_ble_eq_true rfl, Nat.le_of_ble_eq_true rfl⟩ (m_X11_turnWind) dX11_setWind_33 (rfl : 33 + 3 = 36) (Nat.le_of_ble_eq_true rfl) rfl rfl rfl ⟨Nat.le_of_ble_eq_true rfl, Nat.le_of_ble_eq_true rfl⟩ ?_
    refine k_iret rfl rfl dX11_setWind_36 (Nat.le_of_ble_eq_true rfl) (Nat.le_of_ble_eq_true rfl) ?_
    exact kRo_of (Eq.symm (if_pos (show (f_X11_checkWind a1 a2) = 0 from b6))) (congrArg (fun z => kTp (kHc z) r) (Eq.symm (if_pos (show (f_X11_checkWind a1 a2) = 0 from b6))))
  · refine k_throw th_X11_134_138 tx_X11_136 rfl dX11_setWind_9 dX11_setWind_12 dX11_setWind_13 dX11_setWind_15 dX11_setWind_18 (Nat.le_of_ble_eq_true rfl) (Nat.le_of_ble_eq_true rfl) ⟨(Nat.le_of_ble_eq_true rfl), (Nat.le_of_ble_eq_true rfl)⟩ (Nat.le_of_ble_eq_true rfl) (Nat.le_of_ble_eq_true rfl) ?_
    exact kRo_of (Eq.symm (if_neg (show ¬ ((f_X11_checkWind a1 a2) = 0) from b6))) (congrArg (fun z => kTp (kHc z) r) (Eq.symm (if_neg (show ¬ ((f_X11_checkWind a1 a2) = 0) from b6))))
def f_X11_bench (x : kK)  : Int32 := ((x.1 0).2.1 0)
set_option maxRecDepth 100000 in
set_option maxHeartbeats 4000000 in
theorem m_X11_bench {x : kK} {r : kH} : kMet kX11_bench false 0 0 [.ref 0] (kTp (kHc x) r) 130 (kRt (some (.int (f_X11_bench x ))) (kTp (kHc x) r) 130) := by
  refine kMet.in (by decide) rfl rfl _ rfl ?_
  refine k_aload_n (i := 0) dX11_bench_0 (rfl : 0 + 1 = 1) rfl rfl ?_
  refine k_get 11 0 fg_X11_12 dX11_bench_1 (rfl : 1 + 3 = 4) (Nat.le_of_ble_eq_true rfl) rfl rfl ?_
  refine k_get 9 0 fg_X11_100 dX11_bench_4 (rfl : 4 + 3 = 7) (Nat.le_of_ble_eq_true rfl) rfl rfl ?_
  refine k_get 10 1 fg_X11_142 dX11_bench_7 (rfl : 7 + 3 = 10) (Nat.le_of_ble_eq_true rfl) rfl rfl ?_
  refine k_iret rfl rfl dX11_bench_10 (Nat.le_of_ble_eq_true rfl) (Nat.le_of_ble_eq_true rfl) ?_
  exact kRt_of rfl rfl
def o_X11_addParty (x : kK) (a1 : Int32) (a2 : Int32) : kOut := if (f_X11_checkNewParty x a1 a2) = 1 then (.inr "java/lang/IndexOutOfBoundsException") else (if (f_X11_checkNewParty x a1 a2) = 3 then (.inr "java/lang/IllegalStateException") else (if (f_X11_checkNewParty x a1 a2) = 4 then (.inr "java/lang/UnsupportedOperationException") else (.inl (some (.int (f_X11_seatParty (remS (g_X11_checkNewParty x a1 a2) 0) a1 a2))))))
def g_X11_addParty (x : kK) (a1 : Int32) (a2 : Int32) : kK := if (f_X11_checkNewParty x a1 a2) = 1 then (g_X11_checkNewParty x a1 a2) else (if (f_X11_checkNewParty x a1 a2) = 3 then (g_X11_checkNewParty x a1 a2) else (if (f_X11_checkNewParty x a1 a2) = 4 then (g_X11_checkNewParty x a1 a2) else (g_X11_seatParty (remS (g_X11_checkNewParty x a1 a2) 0) a1 a2)))
set_option maxRecDepth 100000 in
set_option maxHeartbeats 4000000 in
theorem m_X11_addParty {x : kK} {r : kH} (iv : kIv (x.1 0)) {a1 : Int32} {a2 : Int32} (hh : kHi x) : kMet kX11_addParty false 1 6 [.ref 0, .int a1, .int a2] (kTp (kHc x) r) 130 (kRo (o_X11_addParty x a1 a2) (kTp (kHc (g_X11_addParty x a1 a2)) r) 130) := by
  refine kMet.in (by decide) rfl rfl _ rfl ?_
  refine k_aload_n (i := 0) dX11_addParty_0 (rfl : 0 + 1 = 1) rfl rfl ?_
  refine k_iload_n (i := 1) dX11_addParty_1 (rfl : 1 + 1 = 2) rfl rfl ?_
  refine k_iload_n (i := 2) dX11_addParty_2 (rfl : 2 + 1 = 3) rfl rfl ?_
  refine k_callVd2 cv_X11_145 ⟨Nat.le_of_ble_eq_true rfl, Nat.le_of_ble_eq_true rfl⟩ (m_X11_checkNewParty iv) dX11_addParty_3 (rfl : 3 + 3 = 6) (Nat.le_of_ble_eq_true rfl) rfl rfl rfl ⟨Nat.le_of_ble_eq_true rfl, Nat.le_of_ble_eq_true rfl⟩ ?_
  refine k_istore_n (i := 3) dX11_addParty_6 (rfl : 6 + 1 = 7) rfl (Nat.le_of_ble_eq_true rfl) ?_
  refine k_ls (ls2 := [.ref 0, .int a1, .int a2, .int (f_X11_checkNewParty x a1 a2)]) rfl ?_
  refine k_iload_n (i := 3) dX11_addParty_7 (rfl : 7 + 1 = 8) rfl rfl ?_
  refine k_iconst (v := 1) dX11_addParty_8 (rfl : 8 + 1 = 9) (by decide) ?_
  refine k_icmp_ne (tgt := 22) dX11_addParty_9 (rfl : 9 + 3 = 12) (by decide) (fun b9 => ?_) (fun b9 => ?_)
  · refine k_iload_n (i := 3) dX11_addParty_22 (rfl : 22 + 1 = 23) rfl rfl ?_
    refine k_iconst (v := 3) dX11_addParty_23 (rfl : 23 + 1 = 24) (by decide) ?_
    refine k_icmp_ne (tgt := 37) dX11_addParty_24 (rfl : 24 + 3 = 27) (by decide) (fun b24 => ?_) (fun b24 => ?_)
    · refine k_iload_n (i := 3) dX11_addParty_37 (rfl : 37 + 1 = 38) rfl rfl ?_
      refine k_iconst (v := 4) dX11_addParty_38 (rfl : 38 + 1 = 39) (by decide) ?_
      refine k_icmp_ne (tgt := 52) dX11_addParty_39 (rfl : 39 + 3 = 42) (by decide) (fun b39 => ?_) (fun b39 => ?_)
      · refine k_aload_n (i := 0) dX11_addParty_52 (rfl : 52 + 1 = 53) rfl rfl ?_
        refine k_get 11 3 fg_X11_25 dX11_addParty_53 (rfl : 53 + 3 = 56) (Nat.le_of_ble_eq_true rfl) rfl rfl ?_
        refine k_aload_n (i := 0) dX11_addParty_56 (rfl : 56 + 1 = 57) rfl rfl ?_
        refine k_get 11 0 fg_X11_12 dX11_addParty_57 (rfl : 57 + 3 = 60) (Nat.le_of_ble_eq_true rfl) rfl rfl ?_
        refine k_callVv1 cv_X11_84 ⟨Nat.le_of_ble_eq_true rfl, Nat.le_of_ble_eq_true rfl⟩ (m_rem0 (hi_kp kp_checkNewParty hh)) dX11_addParty_60 (rfl : 60 + 3 = 63) (Nat.le_of_ble_eq_true rfl) rfl rfl rfl ⟨Nat.le_of_ble_eq_true rfl, Nat.le_of_ble_eq_true rfl⟩ ?_
        refine k_aload_n (i := 0) dX11_addParty_63 (rfl : 63 + 1 = 64) rfl rfl ?_
        refine k_iload_n (i := 1) dX11_addParty_64 (rfl : 64 + 1 = 65) rfl rfl ?_
        refine k_iload_n (i := 2) dX11_addParty_65 (rfl : 65 + 1 = 66) rfl rfl ?_
        refine k_callVd2 cv_X11_155 ⟨Nat.le_of_ble_eq_true rfl, Nat.le_of_ble_eq_true rfl⟩ (m_X11_seatParty (iv_rem (iv_kp kp_checkNewParty iv))) dX11_addParty_66 (rfl : 66 + 3 = 69) (Nat.le_of_ble_eq_true rfl) rfl rfl rfl ⟨Nat.le_of_ble_eq_true rfl, Nat.le_of_ble_eq_true rfl⟩ ?_
        refine k_iret rfl rfl dX11_addParty_69 (Nat.le_of_ble_eq_true rfl) (Nat.le_of_ble_eq_true rfl) ?_
        exact kRo_of (Eq.symm (Eq.trans (if_neg (show ¬ ((f_X11_checkNewParty x a1 a2) = 1) from b9)) (Eq.trans (if_neg (show ¬ ((f_X11_checkNewParty x a1 a2) = 3) from b24)) (if_neg (show ¬ ((f_X11_checkNewParty x a1 a2) = 4) from b39))))) (congrArg (fun z => kTp (kHc z) r) (Eq.symm (Eq.trans (if_neg (show ¬ ((f_X11_checkNewParty x a1 a2) = 1) from b9)) (Eq.trans (if_neg (show ¬ ((f_X11_checkNewParty x a1 a2) = 3) from b24)) (if_neg (show ¬ ((f_X11_checkNewParty x a1 a2) = 4) from b39))))))
      · refine k_throw th_X11_79_83 tx_X11_153 rfl dX11_addParty_42 dX11_addParty_45 dX11_addParty_46 dX11_addParty_48 dX11_addParty_51 (Nat.le_of_ble_eq_true rfl) (Nat.le_of_ble_eq_true rfl) ⟨(Nat.le_of_ble_eq_true rfl), (Nat.le_of_ble_eq_true rfl)⟩ (Nat.le_of_ble_eq_true rfl) (Nat.le_of_ble_eq_true rfl) ?_
        exact kRo_of (Eq.symm (Eq.trans (if_neg (show ¬ ((f_X11_checkNewParty x a1 a2) = 1) from b9)) (Eq.trans (if_neg (show ¬ ((f_X11_checkNewParty x a1 a2) = 3) from b24)) (if_pos (show (f_X11_checkNewParty x a1 a2) = 4 from b39))))) (congrArg (fun z => kTp (kHc z) r) (Eq.symm (Eq.trans (if_neg (show ¬ ((f_X11_checkNewParty x a1 a2) = 1) from b9)) (Eq.trans (if_neg (show ¬ ((f_X11_checkNewParty x a1 a2) = 3) from b24)) (if_pos (show (f_X11_checkNewParty x a1 a2) = 4 from b39))))))
    · refine k_throw th_X11_148_152 tx_X11_150 rfl dX11_addParty_27 dX11_addParty_30 dX11_addParty_31 dX11_addParty_33 dX11_addParty_36 (Nat.le_of_ble_eq_true rfl) (Nat.le_of_ble_eq_true rfl) ⟨(Nat.le_of_ble_eq_true rfl), (Nat.le_of_ble_eq_true rfl)⟩ (Nat.le_of_ble_eq_true rfl) (Nat.le_of_ble_eq_true rfl) ?_
      exact kRo_of (Eq.symm (Eq.trans (if_neg (show ¬ ((f_X11_checkNewParty x a1 a2) = 1) from b9)) (if_pos (show (f_X11_checkNewParty x a1 a2) = 3 from b24)))) (congrArg (fun z => kTp (kHc z) r) (Eq.symm (Eq.trans (if_neg (show ¬ ((f_X11_checkNewParty x a1 a2) = 1) from b9)) (if_pos (show (f_X11_checkNewParty x a1 a2) = 3 from b24)))))
  · refine k_throw th_X11_72_76 tx_X11_74 rfl dX11_addParty_12 dX11_addParty_15 dX11_addParty_16 dX11_addParty_18 dX11_addParty_21 (Nat.le_of_ble_eq_true rfl) (Nat.le_of_ble_eq_true rfl) ⟨(Nat.le_of_ble_eq_true rfl), (Nat.le_of_ble_eq_true rfl)⟩ (Nat.le_of_ble_eq_true rfl) (Nat.le_of_ble_eq_true rfl) ?_
    exact kRo_of (Eq.symm (if_pos (show (f_X11_checkNewParty x a1 a2) = 1 from b9))) (congrArg (fun z => kTp (kHc z) r) (Eq.symm (if_pos (show (f_X11_checkNewParty x a1 a2) = 1 from b9))))
def o_X11_moveParty (x : kK) (a1 : Int32) (a2 : Int32) (a3 : Int32) : kOut := if (f_X11_checkMove x a1 a2 a3) = 1 then (.inr "java/lang/IndexOutOfBoundsException") else (if (f_X11_checkMove x a1 a2 a3) = 4 then (.inr "java/lang/UnsupportedOperationException") else (.inl (some (.int (f_X11_shiftParty (remS (g_X11_checkMove x a1 a2 a3) 0) a1 a2 a3)))))
def g_X11_moveParty (x : kK) (a1 : Int32) (a2 : Int32) (a3 : Int32) : kK := if (f_X11_checkMove x a1 a2 a3) = 1 then (g_X11_checkMove x a1 a2 a3) else (if (f_X11_checkMove x a1 a2 a3) = 4 then (g_X11_checkMove x a1 a2 a3) else (g_X11_shiftParty (remS (g_X11_checkMove x a1 a2 a3) 0) a1 a2 a3))
set_option maxRecDepth 100000 in
set_option maxHeartbeats 4000000 in
theorem m_X11_moveParty {x : kK} {r : kH} (iv : kIv (x.1 0)) {a1 : Int32} {a2 : Int32} {a3 : Int32} (hh : kHi x) : kMet kX11_moveParty false 1 6 [.ref 0, .int a1, .int a2, .int a3] (kTp (kHc x) r) 130 (kRo (o_X11_moveParty x a1 a2 a3) (kTp (kHc (g_X11_moveParty x a1 a2 a3)) r) 130) := by
  refine kMet.in (by decide) rfl rfl _ rfl ?_
  refine k_aload_n (i := 0) dX11_moveParty_0 (rfl : 0 + 1 = 1) rfl rfl ?_
  refine k_iload_n (i := 1) dX11_moveParty_1 (rfl : 1 + 1 = 2) rfl rfl ?_
  refine k_iload_n (i := 2) dX11_moveParty_2 (rfl : 2 + 1 = 3) rfl rfl ?_
  refine k_iload_n (i := 3) dX11_moveParty_3 (rfl : 3 + 1 = 4) rfl rfl ?_
  refine k_callVd3 cv_X11_158 ⟨Nat.le_of_ble_eq_true rfl, Nat.le_of_ble_eq_true rfl⟩ (m_X11_checkMove iv) dX11_moveParty_4 (rfl : 4 + 3 = 7) (Nat.le_of_ble_eq_true rfl) rfl rfl rfl ⟨Nat.le_of_ble_eq_true rfl, Nat.le_of_ble_eq_true rfl⟩ ?_
  refine k_istore (i := 4) dX11_moveParty_7 (rfl : 7 + 2 = 9) (Nat.le_of_ble_eq_true rfl) ?_
  refine k_ls (ls2 := [.ref 0, .int a1, .int a2, .int a3, .int (f_X11_checkMove x a1 a2 a3)]) rfl ?_
  refine k_iload (i := 4) dX11_moveParty_9 (rfl : 9 + 2 = 11) rfl ?_
  refine k_iconst (v := 1) dX11_moveParty_11 (rfl : 11 + 1 = 12) (by decide) ?_
  refine k_icmp_ne (tgt := 25) dX11_moveParty_12 (rfl : 12 + 3 = 15) (by decide) (fun b12 => ?_) (fun b12 => ?_)
  · refine k_iload (i := 4) dX11_moveParty_25 (rfl : 25 + 2 = 27) rfl ?_
    refine k_iconst (v := 4) dX11_moveParty_27 (rfl : 27 + 1 = 28) (by decide) ?_
    refine k_icmp_ne (tgt := 41) dX11_moveParty_28 (rfl : 28 + 3 = 31) (by decide) (fun b28 => ?_) (fun b28 => ?_)
    · refine k_aload_n (i := 0) dX11_moveParty_41 (rfl : 41 + 1 = 42) rfl rfl ?_
      refine k_get 11 3 fg_X11_25 dX11_moveParty_42 (rfl : 42 + 3 = 45) (Nat.le_of_ble_eq_true rfl) rfl rfl ?_
      refine k_aload_n (i := 0) dX11_moveParty_45 (rfl : 45 + 1 = 46) rfl rfl ?_
      refine k_get 11 0 fg_X11_12 dX11_moveParty_46 (rfl : 46 + 3 = 49) (Nat.le_of_ble_eq_true rfl) rfl rfl ?_
      refine k_callVv1 cv_X11_84 ⟨Nat.le_of_ble_eq_true rfl, Nat.le_of_ble_eq_true rfl⟩ (m_rem0 (hi_kp kp_checkMove hh)) dX11_moveParty_49 (rfl : 49 + 3 = 52) (Nat.le_of_ble_eq_true rfl) rfl rfl rfl ⟨Nat.le_of_ble_eq_true rfl, Nat.le_of_ble_eq_true rfl⟩ ?_
      refine k_aload_n (i := 0) dX11_moveParty_52 (rfl : 52 + 1 = 53) rfl rfl ?_
      refine k_iload_n (i := 1) dX11_moveParty_53 (rfl : 53 + 1 = 54) rfl rfl ?_
      refine k_iload_n (i := 2) dX11_moveParty_54 (rfl : 54 + 1 = 55) rfl rfl ?_
      refine k_iload_n (i := 3) dX11_moveParty_55 (rfl : 55 + 1 = 56) rfl rfl ?_
      refine k_callVd3 cv_X11_166 ⟨Nat.le_of_ble_eq_true rfl, Nat.le_of_ble_eq_true rfl⟩ (m_X11_shiftParty (cm_f iv b12)) dX11_moveParty_56 (rfl : 56 + 3 = 59) (Nat.le_of_ble_eq_true rfl) rfl rfl rfl ⟨Nat.le_of_ble_eq_true rfl, Nat.le_of_ble_eq_true rfl⟩ ?_
      refine k_iret rfl rfl dX11_moveParty_59 (Nat.le_of_ble_eq_true rfl) (Nat.le_of_ble_eq_true rfl) ?_
      exact kRo_of (Eq.symm (Eq.trans (if_neg (show ¬ ((f_X11_checkMove x a1 a2 a3) = 1) from b12)) (if_neg (show ¬ ((f_X11_checkMove x a1 a2 a3) = 4) from b28)))) (congrArg (fun z => kTp (kHc z) r) (Eq.symm (Eq.trans (if_neg (show ¬ ((f_X11_checkMove x a1 a2 a3) = 1) from b12)) (if_neg (show ¬ ((f_X11_checkMove x a1 a2 a3) = 4) from b28)))))
    · refine k_throw th_X11_79_83 tx_X11_164 rfl dX11_moveParty_31 dX11_moveParty_34 dX11_moveParty_35 dX11_moveParty_37 dX11_moveParty_40 (Nat.le_of_ble_eq_true rfl) (Nat.le_of_ble_eq_true rfl) ⟨(Nat.le_of_ble_eq_true rfl), (Nat.le_of_ble_eq_true rfl)⟩ (Nat.le_of_ble_eq_true rfl) (Nat.le_of_ble_eq_true rfl) ?_
      exact kRo_of (Eq.symm (Eq.trans (if_neg (show ¬ ((f_X11_checkMove x a1 a2 a3) = 1) from b12)) (if_pos (show (f_X11_checkMove x a1 a2 a3) = 4 from b28)))) (congrArg (fun z => kTp (kHc z) r) (Eq.symm (Eq.trans (if_neg (show ¬ ((f_X11_checkMove x a1 a2 a3) = 1) from b12)) (if_pos (show (f_X11_checkMove x a1 a2 a3) = 4 from b28)))))
  · refine k_throw th_X11_72_76 tx_X11_162 rfl dX11_moveParty_15 dX11_moveParty_18 dX11_moveParty_19 dX11_moveParty_21 dX11_moveParty_24 (Nat.le_of_ble_eq_true rfl) (Nat.le_of_ble_eq_true rfl) ⟨(Nat.le_of_ble_eq_true rfl), (Nat.le_of_ble_eq_true rfl)⟩ (Nat.le_of_ble_eq_true rfl) (Nat.le_of_ble_eq_true rfl) ?_
    exact kRo_of (Eq.symm (if_pos (show (f_X11_checkMove x a1 a2 a3) = 1 from b12))) (congrArg (fun z => kTp (kHc z) r) (Eq.symm (if_pos (show (f_X11_checkMove x a1 a2 a3) = 1 from b12))))
def f_X11_partyCount (x : kK)  : Int32 := ((x.1 0).2.1 3)
set_option maxRecDepth 100000 in
set_option maxHeartbeats 4000000 in
theorem m_X11_partyCount {x : kK} {r : kH} : kMet kX11_partyCount false 0 0 [.ref 0] (kTp (kHc x) r) 130 (kRt (some (.int (f_X11_partyCount x ))) (kTp (kHc x) r) 130) := by
  refine kMet.in (by decide) rfl rfl _ rfl ?_
  refine k_aload_n (i := 0) dX11_partyCount_0 (rfl : 0 + 1 = 1) rfl rfl ?_
  refine k_get 11 0 fg_X11_12 dX11_partyCount_1 (rfl : 1 + 3 = 4) (Nat.le_of_ble_eq_true rfl) rfl rfl ?_
  refine k_get 9 0 fg_X11_100 dX11_partyCount_4 (rfl : 4 + 3 = 7) (Nat.le_of_ble_eq_true rfl) rfl rfl ?_
  refine k_get 10 4 fg_X11_169 dX11_partyCount_7 (rfl : 7 + 3 = 10) (Nat.le_of_ble_eq_true rfl) rfl rfl ?_
  refine k_iret rfl rfl dX11_partyCount_10 (Nat.le_of_ble_eq_true rfl) (Nat.le_of_ble_eq_true rfl) ?_
  exact kRt_of rfl rfl
def o_X11_cellOf (x : kK) (a1 : Int32) : kOut := if (b2i (decide (0 ≤ a1 ∧ a1 < ((x.1 0).2.1 3)))) = 0 then (.inr "java/lang/IndexOutOfBoundsException") else (.inl (some (.int (((x.1 0).2.2 0) (Int32.toNatClampNeg a1)))))
set_option maxRecDepth 100000 in
set_option maxHeartbeats 4000000 in
theorem m_X11_cellOf {x : kK} {r : kH} {a1 : Int32} (iv : kIv (x.1 0)) : kMet kX11_cellOf false 1 6 [.ref 0, .int a1] (kTp (kHc x) r) 130 (kRo (o_X11_cellOf x a1) (kTp (kHc x) r) 130) := by
  refine kMet.in (by decide) rfl rfl _ rfl ?_
  refine k_aload_n (i := 0) dX11_cellOf_0 (rfl : 0 + 1 = 1) rfl rfl ?_
  refine k_get 11 0 fg_X11_12 dX11_cellOf_1 (rfl : 1 + 3 = 4) (Nat.le_of_ble_eq_true rfl) rfl rfl ?_
  refine k_get 9 0 fg_X11_100 dX11_cellOf_4 (rfl : 4 + 3 = 7) (Nat.le_of_ble_eq_true rfl) rfl rfl ?_
  refine k_iload_n (i := 1) dX11_cellOf_7 (rfl : 7 + 1 = 8) rfl rfl ?_
  refine k_callVd1 cv_X11_172 ⟨Nat.le_of_ble_eq_true rfl, Nat.le_of_ble_eq_true rfl⟩ (m_X10_hasParty) dX11_cellOf_8 (rfl : 8 + 3 = 11) (Nat.le_of_ble_eq_true rfl) rfl rfl rfl ⟨Nat.le_of_ble_eq_true rfl, Nat.le_of_ble_eq_true rfl⟩ ?_
  refine k_if_ne (tgt := 24) dX11_cellOf_11 (rfl : 11 + 3 = 14) (by decide) (fun b11 => ?_) (fun b11 => ?_)
  · refine k_aload_n (i := 0) dX11_cellOf_24 (rfl : 24 + 1 = 25) rfl rfl ?_
    refine k_get 11 0 fg_X11_12 dX11_cellOf_25 (rfl : 25 + 3 = 28) (Nat.le_of_ble_eq_true rfl) rfl rfl ?_
    refine k_get 9 0 fg_X11_100 dX11_cellOf_28 (rfl : 28 + 3 = 31) (Nat.le_of_ble_eq_true rfl) rfl rfl ?_
    refine k_get 10 5 fg_X11_178 dX11_cellOf_31 (rfl : 31 + 3 = 34) (Nat.le_of_ble_eq_true rfl) rfl rfl ?_
    refine k_iload_n (i := 1) dX11_cellOf_34 (rfl : 34 + 1 = 35) rfl rfl ?_
    refine k_iald dX11_cellOf_35 (rfl : 35 + 1 = 36) (Nat.le_of_ble_eq_true rfl) rfl (kIv_pa iv b11) ?_
    refine k_iret rfl rfl dX11_cellOf_36 (Nat.le_of_ble_eq_true rfl) (Nat.le_of_ble_eq_true rfl) ?_
    exact kRo_of (Eq.symm (if_neg (show ¬ ((b2i (decide (0 ≤ a1 ∧ a1 < ((x.1 0).2.1 3)))) = 0) from b11))) rfl
  · refine k_throw th_X11_72_76 tx_X11_176 rfl dX11_cellOf_14 dX11_cellOf_17 dX11_cellOf_18 dX11_cellOf_20 dX11_cellOf_23 (Nat.le_of_ble_eq_true rfl) (Nat.le_of_ble_eq_true rfl) ⟨(Nat.le_of_ble_eq_true rfl), (Nat.le_of_ble_eq_true rfl)⟩ (Nat.le_of_ble_eq_true rfl) (Nat.le_of_ble_eq_true rfl) ?_
    exact kRo_of (Eq.symm (if_pos (show (b2i (decide (0 ≤ a1 ∧ a1 < ((x.1 0).2.1 3)))) = 0 from b11))) rfl
def o_X11_partyIn (x : kK) (a1 : Int32) (a2 : Int32) : kOut := if (f_X11_isCell a1 a2) = 0 then (.inr "java/lang/IndexOutOfBoundsException") else (if (pFind ((x.1 0).2.2 0) (f_X11_cellAt a1 a2) (Int32.toNatClampNeg ((x.1 0).2.1 3)) 0) = (-1) then (.inr "java/util/NoSuchElementException") else (.inl (some (.int (pFind ((x.1 0).2.2 0) (f_X11_cellAt a1 a2) (Int32.toNatClampNeg ((x.1 0).2.1 3)) 0)))))
set_option maxRecDepth 100000 in
set_option maxHeartbeats 4000000 in
theorem m_X11_partyIn {x : kK} {r : kH} (iv : kIv (x.1 0)) {a1 : Int32} {a2 : Int32} : kMet kX11_partyIn false 1 6 [.ref 0, .int a1, .int a2] (kTp (kHc x) r) 130 (kRo (o_X11_partyIn x a1 a2) (kTp (kHc x) r) 130) := by
  refine kMet.in (by decide) rfl rfl _ rfl ?_
  refine k_iload_n (i := 1) dX11_partyIn_0 (rfl : 0 + 1 = 1) rfl rfl ?_
  refine k_iload_n (i := 2) dX11_partyIn_1 (rfl : 1 + 1 = 2) rfl rfl ?_
  refine k_callSd2 cv_X11_117 ⟨Nat.le_of_ble_eq_true rfl, Nat.le_of_ble_eq_true rfl⟩ (m_X11_isCell) dX11_partyIn_2 (rfl : 2 + 3 = 5) rfl ⟨Nat.le_of_ble_eq_true rfl, Nat.le_of_ble_eq_true rfl⟩ ?_
  refine k_if_ne (tgt := 18) dX11_partyIn_5 (rfl : 5 + 3 = 8) (by decide) (fun b5 => ?_) (fun b5 => ?_)
  · refine k_aload_n (i := 0) dX11_partyIn_18 (rfl : 18 + 1 = 19) rfl rfl ?_
    refine k_get 11 0 fg_X11_12 dX11_partyIn_19 (rfl : 19 + 3 = 22) (Nat.le_of_ble_eq_true rfl) rfl rfl ?_
    refine k_get 9 0 fg_X11_100 dX11_partyIn_22 (rfl : 22 + 3 = 25) (Nat.le_of_ble_eq_true rfl) rfl rfl ?_
    refine k_iload_n (i := 1) dX11_partyIn_25 (rfl : 25 + 1 = 26) rfl rfl ?_
    refine k_iload_n (i := 2) dX11_partyIn_26 (rfl : 26 + 1 = 27) rfl rfl ?_
    refine k_callSd2 cv_X11_121 ⟨Nat.le_of_ble_eq_true rfl, Nat.le_of_ble_eq_true rfl⟩ (m_X11_cellAt) dX11_partyIn_27 (rfl : 27 + 3 = 30) rfl ⟨Nat.le_of_ble_eq_true rfl, Nat.le_of_ble_eq_true rfl⟩ ?_
    refine k_callVd1 cv_X11_181 ⟨Nat.le_of_ble_eq_true rfl, Nat.le_of_ble_eq_true rfl⟩ (m2_X10_partyAt iv) dX11_partyIn_30 (rfl : 30 + 3 = 33) (Nat.le_of_ble_eq_true rfl) rfl rfl rfl ⟨Nat.le_of_ble_eq_true rfl, Nat.le_of_ble_eq_true rfl⟩ ?_
    refine k_istore_n (i := 3) dX11_partyIn_33 (rfl : 33 + 1 = 34) rfl (Nat.le_of_ble_eq_true rfl) ?_
    refine k_ls (ls2 := [.ref 0, .int a1, .int a2, .int (pFind ((x.1 0).2.2 0) (f_X11_cellAt a1 a2) (Int32.toNatClampNeg ((x.1 0).2.1 3)) 0)]) rfl ?_
    refine k_iload_n (i := 3) dX11_partyIn_34 (rfl : 34 + 1 = 35) rfl rfl ?_
    refine k_iconst (v := (-1)) dX11_partyIn_35 (rfl : 35 + 1 = 36) (by decide) ?_
    refine k_icmp_ne (tgt := 49) dX11_partyIn_36 (rfl : 36 + 3 = 39) (by decide) (fun b36 => ?_) (fun b36 => ?_)
    · refine k_iload_n (i := 3) dX11_partyIn_49 (rfl : 49 + 1 = 50) rfl rfl ?_
      refine k_iret rfl rfl dX11_partyIn_50 (Nat.le_of_ble_eq_true rfl) (Nat.le_of_ble_eq_true rfl) ?_
      exact kRo_of (Eq.symm (Eq.trans (if_neg (show ¬ ((f_X11_isCell a1 a2) = 0) from b5)) (if_neg (show ¬ ((pFind ((x.1 0).2.2 0) (f_X11_cellAt a1 a2) (Int32.toNatClampNeg ((x.1 0).2.1 3)) 0) = (-1)) from b36)))) rfl
    · refine k_throwN thN_X11 tx_X11_187 rfl dX11_partyIn_39 dX11_partyIn_42 dX11_partyIn_43 dX11_partyIn_45 dX11_partyIn_48 (Nat.le_of_ble_eq_true rfl) (Nat.le_of_ble_eq_true rfl) ⟨(Nat.le_of_ble_eq_true rfl), (Nat.le_of_ble_eq_true rfl)⟩ (Nat.le_of_ble_eq_true rfl) (Nat.le_of_ble_eq_true rfl) ?_
      exact kRo_of (Eq.symm (Eq.trans (if_neg (show ¬ ((f_X11_isCell a1 a2) = 0) from b5)) (if_pos (show (pFind ((x.1 0).2.2 0) (f_X11_cellAt a1 a2) (Int32.toNatClampNeg ((x.1 0).2.1 3)) 0) = (-1) from b36)))) rfl
  · refine k_throw th_X11_72_76 tx_X11_74 rfl dX11_partyIn_8 dX11_partyIn_11 dX11_partyIn_12 dX11_partyIn_14 dX11_partyIn_17 (Nat.le_of_ble_eq_true rfl) (Nat.le_of_ble_eq_true rfl) ⟨(Nat.le_of_ble_eq_true rfl), (Nat.le_of_ble_eq_true rfl)⟩ (Nat.le_of_ble_eq_true rfl) (Nat.le_of_ble_eq_true rfl) ?_
    exact kRo_of (Eq.symm (if_pos (show (f_X11_isCell a1 a2) = 0 from b5))) rfl
def o_X11_servedCount (x : kK) (a1 : Int32) : kOut := if (b2i (decide (0 ≤ a1 ∧ a1 < ((x.1 0).2.1 3)))) = 0 then (.inr "java/lang/IndexOutOfBoundsException") else (.inl (some (.int (((x.1 0).2.2 4) (Int32.toNatClampNeg a1)))))
set_option maxRecDepth 100000 in
set_option maxHeartbeats 4000000 in
theorem m_X11_servedCount {x : kK} {r : kH} {a1 : Int32} (iv : kIv (x.1 0)) : kMet kX11_servedCount false 1 6 [.ref 0, .int a1] (kTp (kHc x) r) 130 (kRo (o_X11_servedCount x a1) (kTp (kHc x) r) 130) := by
  refine kMet.in (by decide) rfl rfl _ rfl ?_
  refine k_aload_n (i := 0) dX11_servedCount_0 (rfl : 0 + 1 = 1) rfl rfl ?_
  refine k_get 11 0 fg_X11_12 dX11_servedCount_1 (rfl : 1 + 3 = 4) (Nat.le_of_ble_eq_true rfl) rfl rfl ?_
  refine k_get 9 0 fg_X11_100 dX11_servedCount_4 (rfl : 4 + 3 = 7) (Nat.le_of_ble_eq_true rfl) rfl rfl ?_
  refine k_iload_n (i := 1) dX11_servedCount_7 (rfl : 7 + 1 = 8) rfl rfl ?_
  refine k_callVd1 cv_X11_172 ⟨Nat.le_of_ble_eq_true rfl, Nat.le_of_ble_eq_true rfl⟩ (m_X10_hasParty) dX11_servedCount_8 (rfl : 8 + 3 = 11) (Nat.le_of_ble_eq_true rfl) rfl rfl rfl ⟨Nat.le_of_ble_eq_true rfl, Nat.le_of_ble_eq_true rfl⟩ ?_
  refine k_if_ne (tgt := 24) dX11_servedCount_11 (rfl : 11 + 3 = 14) (by decide) (fun b11 => ?_) (fun b11 => ?_)
  · refine k_aload_n (i := 0) dX11_servedCount_24 (rfl : 24 + 1 = 25) rfl rfl ?_
    refine k_get 11 0 fg_X11_12 dX11_servedCount_25 (rfl : 25 + 3 = 28) (Nat.le_of_ble_eq_true rfl) rfl rfl ?_
    refine k_get 9 2 fg_X11_190 dX11_servedCount_28 (rfl : 28 + 3 = 31) (Nat.le_of_ble_eq_true rfl) rfl rfl ?_
    refine k_get 7 8 fg_X11_194 dX11_servedCount_31 (rfl : 31 + 3 = 34) (Nat.le_of_ble_eq_true rfl) rfl rfl ?_
    refine k_iload_n (i := 1) dX11_servedCount_34 (rfl : 34 + 1 = 35) rfl rfl ?_
    refine k_iald dX11_servedCount_35 (rfl : 35 + 1 = 36) (Nat.le_of_ble_eq_true rfl) rfl (kIv_pa iv b11) ?_
    refine k_iret rfl rfl dX11_servedCount_36 (Nat.le_of_ble_eq_true rfl) (Nat.le_of_ble_eq_true rfl) ?_
    exact kRo_of (Eq.symm (if_neg (show ¬ ((b2i (decide (0 ≤ a1 ∧ a1 < ((x.1 0).2.1 3)))) = 0) from b11))) rfl
  · refine k_throw th_X11_72_76 tx_X11_176 rfl dX11_servedCount_14 dX11_servedCount_17 dX11_servedCount_18 dX11_servedCount_20 dX11_servedCount_23 (Nat.le_of_ble_eq_true rfl) (Nat.le_of_ble_eq_true rfl) ⟨(Nat.le_of_ble_eq_true rfl), (Nat.le_of_ble_eq_true rfl)⟩ (Nat.le_of_ble_eq_true rfl) (Nat.le_of_ble_eq_true rfl) ?_
    exact kRo_of (Eq.symm (if_pos (show (b2i (decide (0 ≤ a1 ∧ a1 < ((x.1 0).2.1 3)))) = 0 from b11))) rfl
def o_X11_flightLength (x : kK) (a1 : Int32) : kOut := if (f_X11_isThrow a1) = 0 then (.inr "java/lang/IllegalArgumentException") else (.inl (some (.int ((g_X4_fly x a1).2.1 2))))
def g_X11_flightLength (x : kK) (a1 : Int32) : kK := if (f_X11_isThrow a1) = 0 then x else (g_X4_fly x a1)
set_option maxRecDepth 100000 in
set_option maxHeartbeats 4000000 in
theorem m_X11_flightLength {x : kK} {r : kH} {a1 : Int32} : kMet kX11_flightLength false 1 6 [.ref 0, .int a1] (kTp (kHc x) r) 130 (kRo (o_X11_flightLength x a1) (kTp (kHc (g_X11_flightLength x a1)) r) 130) := by
  refine kMet.in (by decide) rfl rfl _ rfl ?_
  refine k_iload_n (i := 1) dX11_flightLength_0 (rfl : 0 + 1 = 1) rfl rfl ?_
  refine k_callSd1 cv_X11_199 ⟨Nat.le_of_ble_eq_true rfl, Nat.le_of_ble_eq_true rfl⟩ (m_X11_isThrow) dX11_flightLength_1 (rfl : 1 + 3 = 4) rfl ⟨Nat.le_of_ble_eq_true rfl, Nat.le_of_ble_eq_true rfl⟩ ?_
  refine k_if_ne (tgt := 17) dX11_flightLength_4 (rfl : 4 + 3 = 7) (by decide) (fun b4 => ?_) (fun b4 => ?_)
  · refine k_aload_n (i := 0) dX11_flightLength_17 (rfl : 17 + 1 = 18) rfl rfl ?_
    refine k_get 11 4 fg_X11_32 dX11_flightLength_18 (rfl : 18 + 3 = 21) (Nat.le_of_ble_eq_true rfl) rfl rfl ?_
    refine k_aload_n (i := 0) dX11_flightLength_21 (rfl : 21 + 1 = 22) rfl rfl ?_
    refine k_get 11 0 fg_X11_12 dX11_flightLength_22 (rfl : 22 + 3 = 25) (Nat.le_of_ble_eq_true rfl) rfl rfl ?_
    refine k_get 9 0 fg_X11_100 dX11_flightLength_25 (rfl : 25 + 3 = 28) (Nat.le_of_ble_eq_true rfl) rfl rfl ?_
    refine k_iload_n (i := 1) dX11_flightLength_28 (rfl : 28 + 1 = 29) rfl rfl ?_
    refine k_callVv2 cv_X11_204 ⟨Nat.le_of_ble_eq_true rfl, Nat.le_of_ble_eq_true rfl⟩ (m_X4_fly (fly_h b4).1 (fly_h b4).2) dX11_flightLength_29 (rfl : 29 + 3 = 32) (Nat.le_of_ble_eq_true rfl) rfl rfl rfl ⟨Nat.le_of_ble_eq_true rfl, Nat.le_of_ble_eq_true rfl⟩ ?_
    refine k_aload_n (i := 0) dX11_flightLength_32 (rfl : 32 + 1 = 33) rfl rfl ?_
    refine k_get 11 4 fg_X11_32 dX11_flightLength_33 (rfl : 33 + 3 = 36) (Nat.le_of_ble_eq_true rfl) rfl rfl ?_
    refine k_get 4 1 fg_X11_208 dX11_flightLength_36 (rfl : 36 + 3 = 39) (Nat.le_of_ble_eq_true rfl) rfl rfl ?_
    refine k_iret rfl rfl dX11_flightLength_39 (Nat.le_of_ble_eq_true rfl) (Nat.le_of_ble_eq_true rfl) ?_
    exact kRo_of (Eq.symm (if_neg (show ¬ ((f_X11_isThrow a1) = 0) from b4))) (congrArg (fun z => kTp (kHc z) r) (Eq.symm (if_neg (show ¬ ((f_X11_isThrow a1) = 0) from b4))))
  · refine k_throw th_X11_134_138 tx_X11_202 rfl dX11_flightLength_7 dX11_flightLength_10 dX11_flightLength_11 dX11_flightLength_13 dX11_flightLength_16 (Nat.le_of_ble_eq_true rfl) (Nat.le_of_ble_eq_true rfl) ⟨(Nat.le_of_ble_eq_true rfl), (Nat.le_of_ble_eq_true rfl)⟩ (Nat.le_of_ble_eq_true rfl) (Nat.le_of_ble_eq_true rfl) ?_
    exact kRo_of (Eq.symm (if_pos (show (f_X11_isThrow a1) = 0 from b4))) (congrArg (fun z => kTp (kHc z) r) (Eq.symm (if_pos (show (f_X11_isThrow a1) = 0 from b4))))
def o_X11_flightCell (x : kK) (a1 : Int32) (a2 : Int32) : kOut := if (f_X11_isThrow a1) = 0 then (.inr "java/lang/IllegalArgumentException") else (if a2 < 0 then (.inr "java/util/NoSuchElementException") else (if a2 ≤ ((g_X4_fly x a1).2.1 2) then (.inl (some (.int (((g_X4_fly x a1).2.2.1 0) (Int32.toNatClampNeg a2))))) else (.inr "java/util/NoSuchElementException")))
def g_X11_flightCell (x : kK) (a1 : Int32) (a2 : Int32) : kK := if (f_X11_isThrow a1) = 0 then x else (if a2 < 0 then (g_X4_fly x a1) else (if a2 ≤ ((g_X4_fly x a1).2.1 2) then (g_X4_fly x a1) else (g_X4_fly x a1)))
set_option maxRecDepth 100000 in
set_option maxHeartbeats 4000000 in
theorem m_X11_flightCell {x : kK} {r : kH} {a1 : Int32} {a2 : Int32} : kMet kX11_flightCell false 1 6 [.ref 0, .int a1, .int a2] (kTp (kHc x) r) 130 (kRo (o_X11_flightCell x a1 a2) (kTp (kHc (g_X11_flightCell x a1 a2)) r) 130) := by
  refine kMet.in (by decide) rfl rfl _ rfl ?_
  refine k_iload_n (i := 1) dX11_flightCell_0 (rfl : 0 + 1 = 1) rfl rfl ?_
  refine k_callSd1 cv_X11_199 ⟨Nat.le_of_ble_eq_true rfl, Nat.le_of_ble_eq_true rfl⟩ (m_X11_isThrow) dX11_flightCell_1 (rfl : 1 + 3 = 4) rfl ⟨Nat.le_of_ble_eq_true rfl, Nat.le_of_ble_eq_true rfl⟩ ?_
  refine k_if_ne (tgt := 17) dX11_flightCell_4 (rfl : 4 + 3 = 7) (by decide) (fun b4 => ?_) (fun b4 => ?_)
  · refine k_aload_n (i := 0) dX11_flightCell_17 (rfl : 17 + 1 = 18) rfl rfl ?_
    refine k_get 11 4 fg_X11_32 dX11_flightCell_18 (rfl : 18 + 3 = 21) (Nat.le_of_ble_eq_true rfl) rfl rfl ?_
    refine k_aload_n (i := 0) dX11_flightCell_21 (rfl : 21 + 1 = 22) rfl rfl ?_
    refine k_get 11 0 fg_X11_12 dX11_flightCell_22 (rfl : 22 + 3 = 25) (Nat.le_of_ble_eq_true rfl) rfl rfl ?_
    refine k_get 9 0 fg_X11_100 dX11_flightCell_25 (rfl : 25 + 3 = 28) (Nat.le_of_ble_eq_true rfl) rfl rfl ?_
    refine k_iload_n (i := 1) dX11_flightCell_28 (rfl : 28 + 1 = 29) rfl rfl ?_
    refine k_callVv2 cv_X11_204 ⟨Nat.le_of_ble_eq_true rfl, Nat.le_of_ble_eq_true rfl⟩ (m_X4_fly (fly_h b4).1 (fly_h b4).2) dX11_flightCell_29 (rfl : 29 + 3 = 32) (Nat.le_of_ble_eq_true rfl) rfl rfl rfl ⟨Nat.le_of_ble_eq_true rfl, Nat.le_of_ble_eq_true rfl⟩ ?_
    refine k_iload_n (i := 2) dX11_flightCell_32 (rfl : 32 + 1 = 33) rfl rfl ?_
    refine k_if_lt (tgt := 47) dX11_flightCell_33 (rfl : 33 + 3 = 36) (by decide) (fun b33 => ?_) (fun b33 => ?_)
    · refine k_throwN thN_X11 tx_X11_211 rfl dX11_flightCell_47 dX11_flightCell_50 dX11_flightCell_51 dX11_flightCell_53 dX11_flightCell_56 (Nat.le_of_ble_eq_true rfl) (Nat.le_of_ble_eq_true rfl) ⟨(Nat.le_of_ble_eq_true rfl), (Nat.le_of_ble_eq_true rfl)⟩ (Nat.le_of_ble_eq_true rfl) (Nat.le_of_ble_eq_true rfl) ?_
      exact kRo_of (Eq.symm (Eq.trans (if_neg (show ¬ ((f_X11_isThrow a1) = 0) from b4)) (if_pos (show a2 < 0 from b33)))) (congrArg (fun z => kTp (kHc z) r) (Eq.symm (Eq.trans (if_neg (show ¬ ((f_X11_isThrow a1) = 0) from b4)) (if_pos (show a2 < 0 from b33)))))
    · refine k_iload_n (i := 2) dX11_flightCell_36 (rfl : 36 + 1 = 37) rfl rfl ?_
      refine k_aload_n (i := 0) dX11_flightCell_37 (rfl : 37 + 1 = 38) rfl rfl ?_
      refine k_get 11 4 fg_X11_32 dX11_flightCell_38 (rfl : 38 + 3 = 41) (Nat.le_of_ble_eq_true rfl) rfl rfl ?_
      refine k_get 4 1 fg_X11_208 dX11_flightCell_41 (rfl : 41 + 3 = 44) (Nat.le_of_ble_eq_true rfl) rfl rfl ?_
      refine k_icmp_le (tgt := 57) dX11_flightCell_44 (rfl : 44 + 3 = 47) (by decide) (fun b44 => ?_) (fun b44 => ?_)
      · refine k_aload_n (i := 0) dX11_flightCell_57 (rfl : 57 + 1 = 58) rfl rfl ?_
        refine k_get 11 4 fg_X11_32 dX11_flightCell_58 (rfl : 58 + 3 = 61) (Nat.le_of_ble_eq_true rfl) rfl rfl ?_
        refine k_get 4 0 fg_X11_213 dX11_flightCell_61 (rfl : 61 + 3 = 64) (Nat.le_of_ble_eq_true rfl) rfl rfl ?_
        refine k_iload_n (i := 2) dX11_flightCell_64 (rfl : 64 + 1 = 65) rfl rfl ?_
        refine k_iald dX11_flightCell_65 (rfl : 65 + 1 = 66) (Nat.le_of_ble_eq_true rfl) rfl (fl_in fly_ok.1 b33 b44) ?_
        refine k_iret rfl rfl dX11_flightCell_66 (Nat.le_of_ble_eq_true rfl) (Nat.le_of_ble_eq_true rfl) ?_
        exact kRo_of (Eq.symm (Eq.trans (if_neg (show ¬ ((f_X11_isThrow a1) = 0) from b4)) (Eq.trans (if_neg (show ¬ (a2 < 0) from b33)) (if_pos (show a2 ≤ ((g_X4_fly x a1).2.1 2) from b44))))) (congrArg (fun z => kTp (kHc z) r) (Eq.symm (Eq.trans (if_neg (show ¬ ((f_X11_isThrow a1) = 0) from b4)) (Eq.trans (if_neg (show ¬ (a2 < 0) from b33)) (if_pos (show a2 ≤ ((g_X4_fly x a1).2.1 2) from b44))))))
      · refine k_throwN thN_X11 tx_X11_211 rfl dX11_flightCell_47 dX11_flightCell_50 dX11_flightCell_51 dX11_flightCell_53 dX11_flightCell_56 (Nat.le_of_ble_eq_true rfl) (Nat.le_of_ble_eq_true rfl) ⟨(Nat.le_of_ble_eq_true rfl), (Nat.le_of_ble_eq_true rfl)⟩ (Nat.le_of_ble_eq_true rfl) (Nat.le_of_ble_eq_true rfl) ?_
        exact kRo_of (Eq.symm (Eq.trans (if_neg (show ¬ ((f_X11_isThrow a1) = 0) from b4)) (Eq.trans (if_neg (show ¬ (a2 < 0) from b33)) (if_neg (show ¬ (a2 ≤ ((g_X4_fly x a1).2.1 2)) from b44))))) (congrArg (fun z => kTp (kHc z) r) (Eq.symm (Eq.trans (if_neg (show ¬ ((f_X11_isThrow a1) = 0) from b4)) (Eq.trans (if_neg (show ¬ (a2 < 0) from b33)) (if_neg (show ¬ (a2 ≤ ((g_X4_fly x a1).2.1 2)) from b44))))))
  · refine k_throw th_X11_134_138 tx_X11_202 rfl dX11_flightCell_7 dX11_flightCell_10 dX11_flightCell_11 dX11_flightCell_13 dX11_flightCell_16 (Nat.le_of_ble_eq_true rfl) (Nat.le_of_ble_eq_true rfl) ⟨(Nat.le_of_ble_eq_true rfl), (Nat.le_of_ble_eq_true rfl)⟩ (Nat.le_of_ble_eq_true rfl) (Nat.le_of_ble_eq_true rfl) ?_
    exact kRo_of (Eq.symm (if_pos (show (f_X11_isThrow a1) = 0 from b4))) (congrArg (fun z => kTp (kHc z) r) (Eq.symm (if_pos (show (f_X11_isThrow a1) = 0 from b4))))
def o_X11_flightEnd (x : kK) (a1 : Int32) : kOut := if (f_X11_isThrow a1) = 0 then (.inr "java/lang/IllegalArgumentException") else (.inl (some (.int ((g_X4_fly x a1).2.1 3))))
def g_X11_flightEnd (x : kK) (a1 : Int32) : kK := if (f_X11_isThrow a1) = 0 then x else (g_X4_fly x a1)
set_option maxRecDepth 100000 in
set_option maxHeartbeats 4000000 in
theorem m_X11_flightEnd {x : kK} {r : kH} {a1 : Int32} : kMet kX11_flightEnd false 1 6 [.ref 0, .int a1] (kTp (kHc x) r) 130 (kRo (o_X11_flightEnd x a1) (kTp (kHc (g_X11_flightEnd x a1)) r) 130) := by
  refine kMet.in (by decide) rfl rfl _ rfl ?_
  refine k_iload_n (i := 1) dX11_flightEnd_0 (rfl : 0 + 1 = 1) rfl rfl ?_
  refine k_callSd1 cv_X11_199 ⟨Nat.le_of_ble_eq_true rfl, Nat.le_of_ble_eq_true rfl⟩ (m_X11_isThrow) dX11_flightEnd_1 (rfl : 1 + 3 = 4) rfl ⟨Nat.le_of_ble_eq_true rfl, Nat.le_of_ble_eq_true rfl⟩ ?_
  refine k_if_ne (tgt := 17) dX11_flightEnd_4 (rfl : 4 + 3 = 7) (by decide) (fun b4 => ?_) (fun b4 => ?_)
  · refine k_aload_n (i := 0) dX11_flightEnd_17 (rfl : 17 + 1 = 18) rfl rfl ?_
    refine k_get 11 4 fg_X11_32 dX11_flightEnd_18 (rfl : 18 + 3 = 21) (Nat.le_of_ble_eq_true rfl) rfl rfl ?_
    refine k_aload_n (i := 0) dX11_flightEnd_21 (rfl : 21 + 1 = 22) rfl rfl ?_
    refine k_get 11 0 fg_X11_12 dX11_flightEnd_22 (rfl : 22 + 3 = 25) (Nat.le_of_ble_eq_true rfl) rfl rfl ?_
    refine k_get 9 0 fg_X11_100 dX11_flightEnd_25 (rfl : 25 + 3 = 28) (Nat.le_of_ble_eq_true rfl) rfl rfl ?_
    refine k_iload_n (i := 1) dX11_flightEnd_28 (rfl : 28 + 1 = 29) rfl rfl ?_
    refine k_callVv2 cv_X11_204 ⟨Nat.le_of_ble_eq_true rfl, Nat.le_of_ble_eq_true rfl⟩ (m_X4_fly (fly_h b4).1 (fly_h b4).2) dX11_flightEnd_29 (rfl : 29 + 3 = 32) (Nat.le_of_ble_eq_true rfl) rfl rfl rfl ⟨Nat.le_of_ble_eq_true rfl, Nat.le_of_ble_eq_true rfl⟩ ?_
    refine k_aload_n (i := 0) dX11_flightEnd_32 (rfl : 32 + 1 = 33) rfl rfl ?_
    refine k_get 11 4 fg_X11_32 dX11_flightEnd_33 (rfl : 33 + 3 = 36) (Nat.le_of_ble_eq_true rfl) rfl rfl ?_
    refine k_get 4 2 fg_X11_216 dX11_flightEnd_36 (rfl : 36 + 3 = 39) (Nat.le_of_ble_eq_true rfl) rfl rfl ?_
    refine k_iret rfl fly_end dX11_flightEnd_39 (Nat.le_of_ble_eq_true rfl) (Nat.le_of_ble_eq_true rfl) ?_
    exact kRo_of (Eq.symm (if_neg (show ¬ ((f_X11_isThrow a1) = 0) from b4))) (congrArg (fun z => kTp (kHc z) r) (Eq.symm (if_neg (show ¬ ((f_X11_isThrow a1) = 0) from b4))))
  · refine k_throw th_X11_134_138 tx_X11_202 rfl dX11_flightEnd_7 dX11_flightEnd_10 dX11_flightEnd_11 dX11_flightEnd_13 dX11_flightEnd_16 (Nat.le_of_ble_eq_true rfl) (Nat.le_of_ble_eq_true rfl) ⟨(Nat.le_of_ble_eq_true rfl), (Nat.le_of_ble_eq_true rfl)⟩ (Nat.le_of_ble_eq_true rfl) (Nat.le_of_ble_eq_true rfl) ?_
    exact kRo_of (Eq.symm (if_pos (show (f_X11_isThrow a1) = 0 from b4))) (congrArg (fun z => kTp (kHc z) r) (Eq.symm (if_pos (show (f_X11_isThrow a1) = 0 from b4))))
def o_X11_flightBits (x : kK) (a1 : Int32) : kOut := if (f_X11_isThrow a1) = 0 then (.inr "java/lang/IllegalArgumentException") else (.inl (some (.long (ecL ((g_X4_fly x a1).2.2.1 0) (Int32.toNatClampNeg ((g_X4_fly x a1).2.1 2)) 1 0))))
def g_X11_flightBits (x : kK) (a1 : Int32) : kK := if (f_X11_isThrow a1) = 0 then x else (g_X4_fly x a1)
set_option maxRecDepth 100000 in
set_option maxHeartbeats 4000000 in
theorem m_X11_flightBits {x : kK} {r : kH} {a1 : Int32} : kMet kX11_flightBits false 1 6 [.ref 0, .int a1] (kTp (kHc x) r) 130 (kRo (o_X11_flightBits x a1) (kTp (kHc (g_X11_flightBits x a1)) r) 130) := by
  refine kMet.in (by decide) rfl rfl _ rfl ?_
  refine k_iload_n (i := 1) dX11_flightBits_0 (rfl : 0 + 1 = 1) rfl rfl ?_
  refine k_callSd1 cv_X11_199 ⟨Nat.le_of_ble_eq_true rfl, Nat.le_of_ble_eq_true rfl⟩ (m_X11_isThrow) dX11_flightBits_1 (rfl : 1 + 3 = 4) rfl ⟨Nat.le_of_ble_eq_true rfl, Nat.le_of_ble_eq_true rfl⟩ ?_
  refine k_if_ne (tgt := 17) dX11_flightBits_4 (rfl : 4 + 3 = 7) (by decide) (fun b4 => ?_) (fun b4 => ?_)
  · refine k_aload_n (i := 0) dX11_flightBits_17 (rfl : 17 + 1 = 18) rfl rfl ?_
    refine k_get 11 4 fg_X11_32 dX11_flightBits_18 (rfl : 18 + 3 = 21) (Nat.le_of_ble_eq_true rfl) rfl rfl ?_
    refine k_aload_n (i := 0) dX11_flightBits_21 (rfl : 21 + 1 = 22) rfl rfl ?_
    refine k_get 11 0 fg_X11_12 dX11_flightBits_22 (rfl : 22 + 3 = 25) (Nat.le_of_ble_eq_true rfl) rfl rfl ?_
    refine k_get 9 0 fg_X11_100 dX11_flightBits_25 (rfl : 25 + 3 = 28) (Nat.le_of_ble_eq_true rfl) rfl rfl ?_
    refine k_iload_n (i := 1) dX11_flightBits_28 (rfl : 28 + 1 = 29) rfl rfl ?_
    refine k_callVv2 cv_X11_204 ⟨Nat.le_of_ble_eq_true rfl, Nat.le_of_ble_eq_true rfl⟩ (m_X4_fly (fly_h b4).1 (fly_h b4).2) dX11_flightBits_29 (rfl : 29 + 3 = 32) (Nat.le_of_ble_eq_true rfl) rfl rfl rfl ⟨Nat.le_of_ble_eq_true rfl, Nat.le_of_ble_eq_true rfl⟩ ?_
    refine k_aload_n (i := 0) dX11_flightBits_32 (rfl : 32 + 1 = 33) rfl rfl ?_
    refine k_get 11 4 fg_X11_32 dX11_flightBits_33 (rfl : 33 + 3 = 36) (Nat.le_of_ble_eq_true rfl) rfl rfl ?_
    refine k_callVd0 cv_X11_220 ⟨Nat.le_of_ble_eq_true rfl, Nat.le_of_ble_eq_true rfl⟩ (m_X4_enteredCells fly_ok.1) dX11_flightBits_36 (rfl : 36 + 3 = 39) (Nat.le_of_ble_eq_true rfl) rfl rfl rfl ⟨Nat.le_of_ble_eq_true rfl, Nat.le_of_ble_eq_true rfl⟩ ?_
    refine k_lret rfl dX11_flightBits_39 (Nat.le_of_ble_eq_true rfl) (Nat.le_of_ble_eq_true rfl) ?_
    exact kRo_of (Eq.symm (if_neg (show ¬ ((f_X11_isThrow a1) = 0) from b4))) (congrArg (fun z => kTp (kHc z) r) (Eq.symm (if_neg (show ¬ ((f_X11_isThrow a1) = 0) from b4))))
  · refine k_throw th_X11_134_138 tx_X11_202 rfl dX11_flightBits_7 dX11_flightBits_10 dX11_flightBits_11 dX11_flightBits_13 dX11_flightBits_16 (Nat.le_of_ble_eq_true rfl) (Nat.le_of_ble_eq_true rfl) ⟨(Nat.le_of_ble_eq_true rfl), (Nat.le_of_ble_eq_true rfl)⟩ (Nat.le_of_ble_eq_true rfl) (Nat.le_of_ble_eq_true rfl) ?_
    exact kRo_of (Eq.symm (if_pos (show (f_X11_isThrow a1) = 0 from b4))) (congrArg (fun z => kTp (kHc z) r) (Eq.symm (if_pos (show (f_X11_isThrow a1) = 0 from b4))))
def o_X11_bestThrow (x : kK) (a1 : Int32) : kOut := if (b2i (decide (0 ≤ a1 ∧ a1 < ((x.1 0).2.1 3)))) = 0 then (.inr "java/lang/IndexOutOfBoundsException") else (if (f_X11_quickestShortestThrow x (((x.1 0).2.2 0) (Int32.toNatClampNeg a1))) = (-1) then (.inr "java/util/NoSuchElementException") else (.inl (some (.int (f_X11_quickestShortestThrow x (((x.1 0).2.2 0) (Int32.toNatClampNeg a1)))))))
def g_X11_bestThrow (x : kK) (a1 : Int32) : kK := if (b2i (decide (0 ≤ a1 ∧ a1 < ((x.1 0).2.1 3)))) = 0 then x else (if (f_X11_quickestShortestThrow x (((x.1 0).2.2 0) (Int32.toNatClampNeg a1))) = (-1) then (g_X11_quickestShortestThrow x (((x.1 0).2.2 0) (Int32.toNatClampNeg a1))) else (g_X11_quickestShortestThrow x (((x.1 0).2.2 0) (Int32.toNatClampNeg a1))))
set_option maxRecDepth 100000 in
set_option maxHeartbeats 4000000 in
theorem m_X11_bestThrow {x : kK} {r : kH} {a1 : Int32} (iv : kIv (x.1 0)) : kMet kX11_bestThrow false 1 6 [.ref 0, .int a1] (kTp (kHc x) r) 130 (kRo (o_X11_bestThrow x a1) (kTp (kHc (g_X11_bestThrow x a1)) r) 130) := by
  refine kMet.in (by decide) rfl rfl _ rfl ?_
  refine k_aload_n (i := 0) dX11_bestThrow_0 (rfl : 0 + 1 = 1) rfl rfl ?_
  refine k_get 11 0 fg_X11_12 dX11_bestThrow_1 (rfl : 1 + 3 = 4) (Nat.le_of_ble_eq_true rfl) rfl rfl ?_
  refine k_get 9 0 fg_X11_100 dX11_bestThrow_4 (rfl : 4 + 3 = 7) (Nat.le_of_ble_eq_true rfl) rfl rfl ?_
  refine k_iload_n (i := 1) dX11_bestThrow_7 (rfl : 7 + 1 = 8) rfl rfl ?_
  refine k_callVd1 cv_X11_172 ⟨Nat.le_of_ble_eq_true rfl, Nat.le_of_ble_eq_true rfl⟩ (m_X10_hasParty) dX11_bestThrow_8 (rfl : 8 + 3 = 11) (Nat.le_of_ble_eq_true rfl) rfl rfl rfl ⟨Nat.le_of_ble_eq_true rfl, Nat.le_of_ble_eq_true rfl⟩ ?_
  refine k_if_ne (tgt := 24) dX11_bestThrow_11 (rfl : 11 + 3 = 14) (by decide) (fun b11 => ?_) (fun b11 => ?_)
  · refine k_aload_n (i := 0) dX11_bestThrow_24 (rfl : 24 + 1 = 25) rfl rfl ?_
    refine k_aload_n (i := 0) dX11_bestThrow_25 (rfl : 25 + 1 = 26) rfl rfl ?_
    refine k_get 11 0 fg_X11_12 dX11_bestThrow_26 (rfl : 26 + 3 = 29) (Nat.le_of_ble_eq_true rfl) rfl rfl ?_
    refine k_get 9 0 fg_X11_100 dX11_bestThrow_29 (rfl : 29 + 3 = 32) (Nat.le_of_ble_eq_true rfl) rfl rfl ?_
    refine k_get 10 5 fg_X11_178 dX11_bestThrow_32 (rfl : 32 + 3 = 35) (Nat.le_of_ble_eq_true rfl) rfl rfl ?_
    refine k_iload_n (i := 1) dX11_bestThrow_35 (rfl : 35 + 1 = 36) rfl rfl ?_
    refine k_iald dX11_bestThrow_36 (rfl : 36 + 1 = 37) (Nat.le_of_ble_eq_true rfl) rfl (kIv_pa iv b11) ?_
    refine k_callVd1 cv_X11_229 ⟨Nat.le_of_ble_eq_true rfl, Nat.le_of_ble_eq_true rfl⟩ (m_X11_quickestShortestThrow) dX11_bestThrow_37 (rfl : 37 + 3 = 40) (Nat.le_of_ble_eq_true rfl) rfl rfl rfl ⟨Nat.le_of_ble_eq_true rfl, Nat.le_of_ble_eq_true rfl⟩ ?_
    refine k_istore_n (i := 2) dX11_bestThrow_40 (rfl : 40 + 1 = 41) rfl (Nat.le_of_ble_eq_true rfl) ?_
    refine k_ls (ls2 := [.ref 0, .int a1, .int (f_X11_quickestShortestThrow x (((x.1 0).2.2 0) (Int32.toNatClampNeg a1)))]) rfl ?_
    refine k_iload_n (i := 2) dX11_bestThrow_41 (rfl : 41 + 1 = 42) rfl rfl ?_
    refine k_iconst (v := (-1)) dX11_bestThrow_42 (rfl : 42 + 1 = 43) (by decide) ?_
    refine k_icmp_ne (tgt := 56) dX11_bestThrow_43 (rfl : 43 + 3 = 46) (by decide) (fun b43 => ?_) (fun b43 => ?_)
    · refine k_iload_n (i := 2) dX11_bestThrow_56 (rfl : 56 + 1 = 57) rfl rfl ?_
      refine k_iret rfl rfl dX11_bestThrow_57 (Nat.le_of_ble_eq_true rfl) (Nat.le_of_ble_eq_true rfl) ?_
      exact kRo_of (Eq.symm (Eq.trans (if_neg (show ¬ ((b2i (decide (0 ≤ a1 ∧ a1 < ((x.1 0).2.1 3)))) = 0) from b11)) (if_neg (show ¬ ((f_X11_quickestShortestThrow x (((x.1 0).2.2 0) (Int32.toNatClampNeg a1))) = (-1)) from b43)))) (congrArg (fun z => kTp (kHc z) r) (Eq.symm (Eq.trans (if_neg (show ¬ ((b2i (decide (0 ≤ a1 ∧ a1 < ((x.1 0).2.1 3)))) = 0) from b11)) (if_neg (show ¬ ((f_X11_quickestShortestThrow x (((x.1 0).2.2 0) (Int32.toNatClampNeg a1))) = (-1)) from b43)))))
    · refine k_throwN thN_X11 tx_X11_232 rfl dX11_bestThrow_46 dX11_bestThrow_49 dX11_bestThrow_50 dX11_bestThrow_52 dX11_bestThrow_55 (Nat.le_of_ble_eq_true rfl) (Nat.le_of_ble_eq_true rfl) ⟨(Nat.le_of_ble_eq_true rfl), (Nat.le_of_ble_eq_true rfl)⟩ (Nat.le_of_ble_eq_true rfl) (Nat.le_of_ble_eq_true rfl) ?_
      exact kRo_of (Eq.symm (Eq.trans (if_neg (show ¬ ((b2i (decide (0 ≤ a1 ∧ a1 < ((x.1 0).2.1 3)))) = 0) from b11)) (if_pos (show (f_X11_quickestShortestThrow x (((x.1 0).2.2 0) (Int32.toNatClampNeg a1))) = (-1) from b43)))) (congrArg (fun z => kTp (kHc z) r) (Eq.symm (Eq.trans (if_neg (show ¬ ((b2i (decide (0 ≤ a1 ∧ a1 < ((x.1 0).2.1 3)))) = 0) from b11)) (if_pos (show (f_X11_quickestShortestThrow x (((x.1 0).2.2 0) (Int32.toNatClampNeg a1))) = (-1) from b43)))))
  · refine k_throw th_X11_72_76 tx_X11_176 rfl dX11_bestThrow_14 dX11_bestThrow_17 dX11_bestThrow_18 dX11_bestThrow_20 dX11_bestThrow_23 (Nat.le_of_ble_eq_true rfl) (Nat.le_of_ble_eq_true rfl) ⟨(Nat.le_of_ble_eq_true rfl), (Nat.le_of_ble_eq_true rfl)⟩ (Nat.le_of_ble_eq_true rfl) (Nat.le_of_ble_eq_true rfl) ?_
    exact kRo_of (Eq.symm (if_pos (show (b2i (decide (0 ≤ a1 ∧ a1 < ((x.1 0).2.1 3)))) = 0 from b11))) (congrArg (fun z => kTp (kHc z) r) (Eq.symm (if_pos (show (b2i (decide (0 ≤ a1 ∧ a1 < ((x.1 0).2.1 3)))) = 0 from b11))))
def o_X11_summon (x : kK) (a1 : Int32) (a2 : Int32) : kOut := if (f_X11_checkSummons x a1 a2) = 1 then (.inr "java/lang/IndexOutOfBoundsException") else (if (f_X11_checkSummons x a1 a2) = 2 then (.inr "java/lang/IllegalArgumentException") else (if (f_X11_checkSummons x a1 a2) = 4 then (.inr "java/lang/UnsupportedOperationException") else (.inl (some (.int (f_X11_throwAt (remS (g_X11_checkSummons x a1 a2) 0) a1 a2))))))
def g_X11_summon (x : kK) (a1 : Int32) (a2 : Int32) : kK := if (f_X11_checkSummons x a1 a2) = 1 then (g_X11_checkSummons x a1 a2) else (if (f_X11_checkSummons x a1 a2) = 2 then (g_X11_checkSummons x a1 a2) else (if (f_X11_checkSummons x a1 a2) = 4 then (g_X11_checkSummons x a1 a2) else (g_X11_throwAt (remS (g_X11_checkSummons x a1 a2) 0) a1 a2)))
set_option maxRecDepth 100000 in
set_option maxHeartbeats 4000000 in
theorem m_X11_summon {x : kK} {r : kH} (iv : kIv (x.1 0)) {a1 : Int32} {a2 : Int32} (hh : kHi x) : kMet kX11_summon false 1 6 [.ref 0, .int a1, .int a2] (kTp (kHc x) r) 130 (kRo (o_X11_summon x a1 a2) (kTp (kHc (g_X11_summon x a1 a2)) r) 130) := by
  refine kMet.in (by decide) rfl rfl _ rfl ?_
  refine k_aload_n (i := 0) dX11_summon_0 (rfl : 0 + 1 = 1) rfl rfl ?_
  refine k_iload_n (i := 1) dX11_summon_1 (rfl : 1 + 1 = 2) rfl rfl ?_
  refine k_iload_n (i := 2) dX11_summon_2 (rfl : 2 + 1 = 3) rfl rfl ?_
  refine k_callVd2 cv_X11_234 ⟨Nat.le_of_ble_eq_true rfl, Nat.le_of_ble_eq_true rfl⟩ (m_X11_checkSummons iv) dX11_summon_3 (rfl : 3 + 3 = 6) (Nat.le_of_ble_eq_true rfl) rfl rfl rfl ⟨Nat.le_of_ble_eq_true rfl, Nat.le_of_ble_eq_true rfl⟩ ?_
  refine k_istore_n (i := 3) dX11_summon_6 (rfl : 6 + 1 = 7) rfl (Nat.le_of_ble_eq_true rfl) ?_
  refine k_ls (ls2 := [.ref 0, .int a1, .int a2, .int (f_X11_checkSummons x a1 a2)]) rfl ?_
  refine k_iload_n (i := 3) dX11_summon_7 (rfl : 7 + 1 = 8) rfl rfl ?_
  refine k_iconst (v := 1) dX11_summon_8 (rfl : 8 + 1 = 9) (by decide) ?_
  refine k_icmp_ne (tgt := 22) dX11_summon_9 (rfl : 9 + 3 = 12) (by decide) (fun b9 => ?_) (fun b9 => ?_)
  · refine k_iload_n (i := 3) dX11_summon_22 (rfl : 22 + 1 = 23) rfl rfl ?_
    refine k_iconst (v := 2) dX11_summon_23 (rfl : 23 + 1 = 24) (by decide) ?_
    refine k_icmp_ne (tgt := 37) dX11_summon_24 (rfl : 24 + 3 = 27) (by decide) (fun b24 => ?_) (fun b24 => ?_)
    · refine k_iload_n (i := 3) dX11_summon_37 (rfl : 37 + 1 = 38) rfl rfl ?_
      refine k_iconst (v := 4) dX11_summon_38 (rfl : 38 + 1 = 39) (by decide) ?_
      refine k_icmp_ne (tgt := 52) dX11_summon_39 (rfl : 39 + 3 = 42) (by decide) (fun b39 => ?_) (fun b39 => ?_)
      · refine k_aload_n (i := 0) dX11_summon_52 (rfl : 52 + 1 = 53) rfl rfl ?_
        refine k_get 11 3 fg_X11_25 dX11_summon_53 (rfl : 53 + 3 = 56) (Nat.le_of_ble_eq_true rfl) rfl rfl ?_
        refine k_aload_n (i := 0) dX11_summon_56 (rfl : 56 + 1 = 57) rfl rfl ?_
        refine k_get 11 0 fg_X11_12 dX11_summon_57 (rfl : 57 + 3 = 60) (Nat.le_of_ble_eq_true rfl) rfl rfl ?_
        refine k_callVv1 cv_X11_84 ⟨Nat.le_of_ble_eq_true rfl, Nat.le_of_ble_eq_true rfl⟩ (m_rem0 (hi_kp kp_checkSummons hh)) dX11_summon_60 (rfl : 60 + 3 = 63) (Nat.le_of_ble_eq_true rfl) rfl rfl rfl ⟨Nat.le_of_ble_eq_true rfl, Nat.le_of_ble_eq_true rfl⟩ ?_
        refine k_aload_n (i := 0) dX11_summon_63 (rfl : 63 + 1 = 64) rfl rfl ?_
        refine k_iload_n (i := 1) dX11_summon_64 (rfl : 64 + 1 = 65) rfl rfl ?_
        refine k_iload_n (i := 2) dX11_summon_65 (rfl : 65 + 1 = 66) rfl rfl ?_
        refine k_callVd2 cv_X11_239 ⟨Nat.le_of_ble_eq_true rfl, Nat.le_of_ble_eq_true rfl⟩ (m_X11_throwAt (iv_rem (iv_kp kp_checkSummons iv)) (cs_f iv b9 b24).1 (cs_f iv b9 b24).2) dX11_summon_66 (rfl : 66 + 3 = 69) (Nat.le_of_ble_eq_true rfl) rfl rfl rfl ⟨Nat.le_of_ble_eq_true rfl, Nat.le_of_ble_eq_true rfl⟩ ?_
        refine k_iret rfl thr_bool dX11_summon_69 (Nat.le_of_ble_eq_true rfl) (Nat.le_of_ble_eq_true rfl) ?_
        exact kRo_of (Eq.symm (Eq.trans (if_neg (show ¬ ((f_X11_checkSummons x a1 a2) = 1) from b9)) (Eq.trans (if_neg (show ¬ ((f_X11_checkSummons x a1 a2) = 2) from b24)) (if_neg (show ¬ ((f_X11_checkSummons x a1 a2) = 4) from b39))))) (congrArg (fun z => kTp (kHc z) r) (Eq.symm (Eq.trans (if_neg (show ¬ ((f_X11_checkSummons x a1 a2) = 1) from b9)) (Eq.trans (if_neg (show ¬ ((f_X11_checkSummons x a1 a2) = 2) from b24)) (if_neg (show ¬ ((f_X11_checkSummons x a1 a2) = 4) from b39))))))
      · refine k_throw th_X11_79_83 tx_X11_237 rfl dX11_summon_42 dX11_summon_45 dX11_summon_46 dX11_summon_48 dX11_summon_51 (Nat.le_of_ble_eq_true rfl) (Nat.le_of_ble_eq_true rfl) ⟨(Nat.le_of_ble_eq_true rfl), (Nat.le_of_ble_eq_true rfl)⟩ (Nat.le_of_ble_eq_true rfl) (Nat.le_of_ble_eq_true rfl) ?_
        exact kRo_of (Eq.symm (Eq.trans (if_neg (show ¬ ((f_X11_checkSummons x a1 a2) = 1) from b9)) (Eq.trans (if_neg (show ¬ ((f_X11_checkSummons x a1 a2) = 2) from b24)) (if_pos (show (f_X11_checkSummons x a1 a2) = 4 from b39))))) (congrArg (fun z => kTp (kHc z) r) (Eq.symm (Eq.trans (if_neg (show ¬ ((f_X11_checkSummons x a1 a2) = 1) from b9)) (Eq.trans (if_neg (show ¬ ((f_X11_checkSummons x a1 a2) = 2) from b24)) (if_pos (show (f_X11_checkSummons x a1 a2) = 4 from b39))))))
    · refine k_throw th_X11_134_138 tx_X11_202 rfl dX11_summon_27 dX11_summon_30 dX11_summon_31 dX11_summon_33 dX11_summon_36 (Nat.le_of_ble_eq_true rfl) (Nat.le_of_ble_eq_true rfl) ⟨(Nat.le_of_ble_eq_true rfl), (Nat.le_of_ble_eq_true rfl)⟩ (Nat.le_of_ble_eq_true rfl) (Nat.le_of_ble_eq_true rfl) ?_
      exact kRo_of (Eq.symm (Eq.trans (if_neg (show ¬ ((f_X11_checkSummons x a1 a2) = 1) from b9)) (if_pos (show (f_X11_checkSummons x a1 a2) = 2 from b24)))) (congrArg (fun z => kTp (kHc z) r) (Eq.symm (Eq.trans (if_neg (show ¬ ((f_X11_checkSummons x a1 a2) = 1) from b9)) (if_pos (show (f_X11_checkSummons x a1 a2) = 2 from b24)))))
  · refine k_throw th_X11_72_76 tx_X11_176 rfl dX11_summon_12 dX11_summon_15 dX11_summon_16 dX11_summon_18 dX11_summon_21 (Nat.le_of_ble_eq_true rfl) (Nat.le_of_ble_eq_true rfl) ⟨(Nat.le_of_ble_eq_true rfl), (Nat.le_of_ble_eq_true rfl)⟩ (Nat.le_of_ble_eq_true rfl) (Nat.le_of_ble_eq_true rfl) ?_
    exact kRo_of (Eq.symm (if_pos (show (f_X11_checkSummons x a1 a2) = 1 from b9))) (congrArg (fun z => kTp (kHc z) r) (Eq.symm (if_pos (show (f_X11_checkSummons x a1 a2) = 1 from b9))))
def o_X11_buyBoomerangs (x : kK) (a1 : Int32) : kOut := if (f_X11_checkPurchase x a1) = 2 then (.inr "java/lang/IllegalArgumentException") else (if (f_X11_checkPurchase x a1) = 3 then (.inr "java/lang/IllegalStateException") else (.inl (some (.int (f_X11_purchase (remS x 0) a1)))))
def g_X11_buyBoomerangs (x : kK) (a1 : Int32) : kK := if (f_X11_checkPurchase x a1) = 2 then x else (if (f_X11_checkPurchase x a1) = 3 then x else (g_X11_purchase (remS x 0) a1))
set_option maxRecDepth 100000 in
set_option maxHeartbeats 4000000 in
theorem m_X11_buyBoomerangs {x : kK} {r : kH} {a1 : Int32} (hh : kHi x) : kMet kX11_buyBoomerangs false 1 6 [.ref 0, .int a1] (kTp (kHc x) r) 130 (kRo (o_X11_buyBoomerangs x a1) (kTp (kHc (g_X11_buyBoomerangs x a1)) r) 130) := by
  refine kMet.in (by decide) rfl rfl _ rfl ?_
  refine k_aload_n (i := 0) dX11_buyBoomerangs_0 (rfl : 0 + 1 = 1) rfl rfl ?_
  refine k_iload_n (i := 1) dX11_buyBoomerangs_1 (rfl : 1 + 1 = 2) rfl rfl ?_
  refine k_callVd1 cv_X11_242 ⟨Nat.le_of_ble_eq_true rfl, Nat.le_of_ble_eq_true rfl⟩ (m_X11_checkPurchase) dX11_buyBoomerangs_2 (rfl : 2 + 3 = 5) (Nat.le_of_ble_eq_true rfl) rfl rfl rfl ⟨Nat.le_of_ble_eq_true rfl, Nat.le_of_ble_eq_true rfl⟩ ?_
  refine k_istore_n (i := 2) dX11_buyBoomerangs_5 (rfl : 5 + 1 = 6) rfl (Nat.le_of_ble_eq_true rfl) ?_
  refine k_ls (ls2 := [.ref 0, .int a1, .int (f_X11_checkPurchase x a1)]) rfl ?_
  refine k_iload_n (i := 2) dX11_buyBoomerangs_6 (rfl : 6 + 1 = 7) rfl rfl ?_
  refine k_iconst (v := 2) dX11_buyBoomerangs_7 (rfl : 7 + 1 = 8) (by decide) ?_
  refine k_icmp_ne (tgt := 21) dX11_buyBoomerangs_8 (rfl : 8 + 3 = 11) (by decide) (fun b8 => ?_) (fun b8 => ?_)
  · refine k_iload_n (i := 2) dX11_buyBoomerangs_21 (rfl : 21 + 1 = 22) rfl rfl ?_
    refine k_iconst (v := 3) dX11_buyBoomerangs_22 (rfl : 22 + 1 = 23) (by decide) ?_
    refine k_icmp_ne (tgt := 36) dX11_buyBoomerangs_23 (rfl : 23 + 3 = 26) (by decide) (fun b23 => ?_) (fun b23 => ?_)
    · refine k_aload_n (i := 0) dX11_buyBoomerangs_36 (rfl : 36 + 1 = 37) rfl rfl ?_
      refine k_get 11 3 fg_X11_25 dX11_buyBoomerangs_37 (rfl : 37 + 3 = 40) (Nat.le_of_ble_eq_true rfl) rfl rfl ?_
      refine k_aload_n (i := 0) dX11_buyBoomerangs_40 (rfl : 40 + 1 = 41) rfl rfl ?_
      refine k_get 11 0 fg_X11_12 dX11_buyBoomerangs_41 (rfl : 41 + 3 = 44) (Nat.le_of_ble_eq_true rfl) rfl rfl ?_
      refine k_callVv1 cv_X11_84 ⟨Nat.le_of_ble_eq_true rfl, Nat.le_of_ble_eq_true rfl⟩ (m_rem0 hh) dX11_buyBoomerangs_44 (rfl : 44 + 3 = 47) (Nat.le_of_ble_eq_true rfl) rfl rfl rfl ⟨Nat.le_of_ble_eq_true rfl, Nat.le_of_ble_eq_true rfl⟩ ?_
      refine k_aload_n (i := 0) dX11_buyBoomerangs_47 (rfl : 47 + 1 = 48) rfl rfl ?_
      refine k_iload_n (i := 1) dX11_buyBoomerangs_48 (rfl : 48 + 1 = 49) rfl rfl ?_
      refine k_callVd1 cv_X11_249 ⟨Nat.le_of_ble_eq_true rfl, Nat.le_of_ble_eq_true rfl⟩ (m_X11_purchase) dX11_buyBoomerangs_49 (rfl : 49 + 3 = 52) (Nat.le_of_ble_eq_true rfl) rfl rfl rfl ⟨Nat.le_of_ble_eq_true rfl, Nat.le_of_ble_eq_true rfl⟩ ?_
      refine k_iret rfl rfl dX11_buyBoomerangs_52 (Nat.le_of_ble_eq_true rfl) (Nat.le_of_ble_eq_true rfl) ?_
      exact kRo_of (Eq.symm (Eq.trans (if_neg (show ¬ ((f_X11_checkPurchase x a1) = 2) from b8)) (if_neg (show ¬ ((f_X11_checkPurchase x a1) = 3) from b23)))) (congrArg (fun z => kTp (kHc z) r) (Eq.symm (Eq.trans (if_neg (show ¬ ((f_X11_checkPurchase x a1) = 2) from b8)) (if_neg (show ¬ ((f_X11_checkPurchase x a1) = 3) from b23)))))
    · refine k_throw th_X11_148_152 tx_X11_247 rfl dX11_buyBoomerangs_26 dX11_buyBoomerangs_29 dX11_buyBoomerangs_30 dX11_buyBoomerangs_32 dX11_buyBoomerangs_35 (Nat.le_of_ble_eq_true rfl) (Nat.le_of_ble_eq_true rfl) ⟨(Nat.le_of_ble_eq_true rfl), (Nat.le_of_ble_eq_true rfl)⟩ (Nat.le_of_ble_eq_true rfl) (Nat.le_of_ble_eq_true rfl) ?_
      exact kRo_of (Eq.symm (Eq.trans (if_neg (show ¬ ((f_X11_checkPurchase x a1) = 2) from b8)) (if_pos (show (f_X11_checkPurchase x a1) = 3 from b23)))) (congrArg (fun z => kTp (kHc z) r) (Eq.symm (Eq.trans (if_neg (show ¬ ((f_X11_checkPurchase x a1) = 2) from b8)) (if_pos (show (f_X11_checkPurchase x a1) = 3 from b23)))))
  · refine k_throw th_X11_134_138 tx_X11_245 rfl dX11_buyBoomerangs_11 dX11_buyBoomerangs_14 dX11_buyBoomerangs_15 dX11_buyBoomerangs_17 dX11_buyBoomerangs_20 (Nat.le_of_ble_eq_true rfl) (Nat.le_of_ble_eq_true rfl) ⟨(Nat.le_of_ble_eq_true rfl), (Nat.le_of_ble_eq_true rfl)⟩ (Nat.le_of_ble_eq_true rfl) (Nat.le_of_ble_eq_true rfl) ?_
    exact kRo_of (Eq.symm (if_pos (show (f_X11_checkPurchase x a1) = 2 from b8))) (congrArg (fun z => kTp (kHc z) r) (Eq.symm (if_pos (show (f_X11_checkPurchase x a1) = 2 from b8))))
def f_X11_boomerangs (x : kK)  : Int32 := ((x.1 0).2.1 7)
set_option maxRecDepth 100000 in
set_option maxHeartbeats 4000000 in
theorem m_X11_boomerangs {x : kK} {r : kH} : kMet kX11_boomerangs false 0 0 [.ref 0] (kTp (kHc x) r) 130 (kRt (some (.int (f_X11_boomerangs x ))) (kTp (kHc x) r) 130) := by
  refine kMet.in (by decide) rfl rfl _ rfl ?_
  refine k_aload_n (i := 0) dX11_boomerangs_0 (rfl : 0 + 1 = 1) rfl rfl ?_
  refine k_get 11 0 fg_X11_12 dX11_boomerangs_1 (rfl : 1 + 3 = 4) (Nat.le_of_ble_eq_true rfl) rfl rfl ?_
  refine k_get 9 2 fg_X11_190 dX11_boomerangs_4 (rfl : 4 + 3 = 7) (Nat.le_of_ble_eq_true rfl) rfl rfl ?_
  refine k_get 7 0 fg_X11_252 dX11_boomerangs_7 (rfl : 7 + 3 = 10) (Nat.le_of_ble_eq_true rfl) rfl rfl ?_
  refine k_iret rfl rfl dX11_boomerangs_10 (Nat.le_of_ble_eq_true rfl) (Nat.le_of_ble_eq_true rfl) ?_
  exact kRt_of rfl rfl
def f_X11_throwCount (x : kK)  : Int32 := ((x.1 0).2.1 12)
set_option maxRecDepth 100000 in
set_option maxHeartbeats 4000000 in
theorem m_X11_throwCount {x : kK} {r : kH} : kMet kX11_throwCount false 0 0 [.ref 0] (kTp (kHc x) r) 130 (kRt (some (.int (f_X11_throwCount x ))) (kTp (kHc x) r) 130) := by
  refine kMet.in (by decide) rfl rfl _ rfl ?_
  refine k_aload_n (i := 0) dX11_throwCount_0 (rfl : 0 + 1 = 1) rfl rfl ?_
  refine k_get 11 0 fg_X11_12 dX11_throwCount_1 (rfl : 1 + 3 = 4) (Nat.le_of_ble_eq_true rfl) rfl rfl ?_
  refine k_get 9 2 fg_X11_190 dX11_throwCount_4 (rfl : 4 + 3 = 7) (Nat.le_of_ble_eq_true rfl) rfl rfl ?_
  refine k_get 7 5 fg_X11_255 dX11_throwCount_7 (rfl : 7 + 3 = 10) (Nat.le_of_ble_eq_true rfl) rfl rfl ?_
  refine k_iret rfl rfl dX11_throwCount_10 (Nat.le_of_ble_eq_true rfl) (Nat.le_of_ble_eq_true rfl) ?_
  exact kRt_of rfl rfl
def o_X11_setSitting (x : kK) (a1 : Int32) (a2 : Int32) : kOut := if a1 < 0 then (.inr "java/lang/IndexOutOfBoundsException") else (if a1 < 24 then (if a2 = 0 then (.inl (some (.int (f_X3_sitsAt (remS x 0) a1)))) else (.inl (some (.int (f_X3_sitsAt (remS x 0) a1))))) else (.inr "java/lang/IndexOutOfBoundsException"))
def g_X11_setSitting (x : kK) (a1 : Int32) (a2 : Int32) : kK := if a1 < 0 then x else (if a1 < 24 then (if a2 = 0 then (nS (remS x 0) 5 ((((remS x 0).1 0).2.1 5) &&& ((1 <<< ((a1 : Int32) &&& 31)) ^^^ (-1)))) else (nS (remS x 0) 5 ((((remS x 0).1 0).2.1 5) ||| (1 <<< ((a1 : Int32) &&& 31))))) else x)
set_option maxRecDepth 100000 in
set_option maxHeartbeats 4000000 in
theorem m_X11_setSitting {x : kK} {r : kH} {a1 : Int32} {a2 : Int32} (hh : kHi x) : kMet kX11_setSitting false 1 6 [.ref 0, .int a1, .int a2] (kTp (kHc x) r) 130 (kRo (o_X11_setSitting x a1 a2) (kTp (kHc (g_X11_setSitting x a1 a2)) r) 130) := by
  refine kMet.in (by decide) rfl rfl _ rfl ?_
  refine k_iload_n (i := 1) dX11_setSitting_0 (rfl : 0 + 1 = 1) rfl rfl ?_
  refine k_if_lt (tgt := 10) dX11_setSitting_1 (rfl : 1 + 3 = 4) (by decide) (fun b1 => ?_) (fun b1 => ?_)
  · refine k_throwW th_X11_72_76 tx_X11_258 rfl dX11_setSitting_10 dX11_setSitting_13 dX11_setSitting_14 dX11_setSitting_17 dX11_setSitting_20 (Nat.le_of_ble_eq_true rfl) (Nat.le_of_ble_eq_true rfl) ⟨(Nat.le_of_ble_eq_true rfl), (Nat.le_of_ble_eq_true rfl)⟩ (Nat.le_of_ble_eq_true rfl) (Nat.le_of_ble_eq_true rfl) ?_
    exact kRo_of (Eq.symm (if_pos (show a1 < 0 from b1))) (congrArg (fun z => kTp (kHc z) r) (Eq.symm (if_pos (show a1 < 0 from b1))))
  · refine k_iload_n (i := 1) dX11_setSitting_4 (rfl : 4 + 1 = 5) rfl rfl ?_
    refine k_bipush (v := 24) dX11_setSitting_5 (rfl : 5 + 2 = 7) (by decide) ?_
    refine k_icmp_lt (tgt := 21) dX11_setSitting_7 (rfl : 7 + 3 = 10) (by decide) (fun b7 => ?_) (fun b7 => ?_)
    · refine k_aload_n (i := 0) dX11_setSitting_21 (rfl : 21 + 1 = 22) rfl rfl ?_
      refine k_get 11 3 fg_X11_25 dX11_setSitting_22 (rfl : 22 + 3 = 25) (Nat.le_of_ble_eq_true rfl) rfl rfl ?_
      refine k_aload_n (i := 0) dX11_setSitting_25 (rfl : 25 + 1 = 26) rfl rfl ?_
      refine k_get 11 0 fg_X11_12 dX11_setSitting_26 (rfl : 26 + 3 = 29) (Nat.le_of_ble_eq_true rfl) rfl rfl ?_
      refine k_callVv1 cv_X11_84 ⟨Nat.le_of_ble_eq_true rfl, Nat.le_of_ble_eq_true rfl⟩ (m_rem0 hh) dX11_setSitting_29 (rfl : 29 + 3 = 32) (Nat.le_of_ble_eq_true rfl) rfl rfl rfl ⟨Nat.le_of_ble_eq_true rfl, Nat.le_of_ble_eq_true rfl⟩ ?_
      refine k_aload_n (i := 0) dX11_setSitting_32 (rfl : 32 + 1 = 33) rfl rfl ?_
      refine k_get 11 0 fg_X11_12 dX11_setSitting_33 (rfl : 33 + 3 = 36) (Nat.le_of_ble_eq_true rfl) rfl rfl ?_
      refine k_get 9 1 fg_X11_260 dX11_setSitting_36 (rfl : 36 + 3 = 39) (Nat.le_of_ble_eq_true rfl) rfl rfl ?_
      refine k_iload_n (i := 1) dX11_setSitting_39 (rfl : 39 + 1 = 40) rfl rfl ?_
      refine k_callVd1 cv_X11_264 ⟨Nat.le_of_ble_eq_true rfl, Nat.le_of_ble_eq_true rfl⟩ (m_X3_sitsAt) dX11_setSitting_40 (rfl : 40 + 3 = 43) (Nat.le_of_ble_eq_true rfl) rfl rfl rfl ⟨Nat.le_of_ble_eq_true rfl, Nat.le_of_ble_eq_true rfl⟩ ?_
      refine k_istore_n (i := 3) dX11_setSitting_43 (rfl : 43 + 1 = 44) rfl (Nat.le_of_ble_eq_true rfl) ?_
      refine k_ls (ls2 := [.ref 0, .int a1, .int a2, .int (f_X3_sitsAt (remS x 0) a1), .retAddr 0]) rfl ?_
      refine k_iconst (v := 1) dX11_setSitting_44 (rfl : 44 + 1 = 45) (by decide) ?_
      refine k_iload_n (i := 1) dX11_setSitting_45 (rfl : 45 + 1 = 46) rfl rfl ?_
      refine k_ishl dX11_setSitting_46 (rfl : 46 + 1 = 47) ?_
      refine k_istore (i := 4) dX11_setSitting_47 (rfl : 47 + 2 = 49) (Nat.le_of_ble_eq_true rfl) ?_
      refine k_ls (ls2 := [.ref 0, .int a1, .int a2, .int (f_X3_sitsAt (remS x 0) a1), .int (1 <<< ((a1 : Int32) &&& 31))]) rfl ?_
      refine k_aload_n (i := 0) dX11_setSitting_49 (rfl : 49 + 1 = 50) rfl rfl ?_
      refine k_get 11 0 fg_X11_12 dX11_setSitting_50 (rfl : 50 + 3 = 53) (Nat.le_of_ble_eq_true rfl) rfl rfl ?_
      refine k_get 9 1 fg_X11_260 dX11_setSitting_53 (rfl : 53 + 3 = 56) (Nat.le_of_ble_eq_true rfl) rfl rfl ?_
      refine k_iload_n (i := 2) dX11_setSitting_56 (rfl : 56 + 1 = 57) rfl rfl ?_
      refine k_if_eq (tgt := 76) dX11_setSitting_57 (rfl : 57 + 3 = 60) (by decide) (fun b57 => ?_) (fun b57 => ?_)
      · refine k_aload_n (i := 0) dX11_setSitting_76 (rfl : 76 + 1 = 77) rfl rfl ?_
        refine k_get 11 0 fg_X11_12 dX11_setSitting_77 (rfl : 77 + 3 = 80) (Nat.le_of_ble_eq_true rfl) rfl rfl ?_
        refine k_get 9 1 fg_X11_260 dX11_setSitting_80 (rfl : 80 + 3 = 83) (Nat.le_of_ble_eq_true rfl) rfl rfl ?_
        refine k_get 3 1 fg_X11_269 dX11_setSitting_83 (rfl : 83 + 3 = 86) (Nat.le_of_ble_eq_true rfl) rfl rfl ?_
        refine k_iload (i := 4) dX11_setSitting_86 (rfl : 86 + 2 = 88) rfl ?_
        refine k_iconst (v := (-1)) dX11_setSitting_88 (rfl : 88 + 1 = 89) (by decide) ?_
        refine k_ixor dX11_setSitting_89 (rfl : 89 + 1 = 90) ?_
        refine k_iand dX11_setSitting_90 (rfl : 90 + 1 = 91) ?_
        refine k_put 3 1 fp_X11_269 dX11_setSitting_91 (rfl : 91 + 3 = 94) (Nat.le_of_ble_eq_true rfl) rfl (Nat.le_of_ble_eq_true rfl) rfl rfl ?_
        refine kf_S3 5 (v := ((((remS x 0).1 0).2.1 5) &&& ((1 <<< ((a1 : Int32) &&& 31)) ^^^ (-1)))) ⟨rfl, rfl⟩ rfl ?_
        refine k_iload_n (i := 3) dX11_setSitting_94 (rfl : 94 + 1 = 95) rfl rfl ?_
        refine k_iret rfl sit_bool dX11_setSitting_95 (Nat.le_of_ble_eq_true rfl) (Nat.le_of_ble_eq_true rfl) ?_
        exact kRo_of (Eq.symm (Eq.trans (if_neg (show ¬ (a1 < 0) from b1)) (Eq.trans (if_pos (show a1 < 24 from b7)) (if_pos (show a2 = 0 from b57))))) (congrArg (fun z => kTp (kHc z) r) (Eq.symm (Eq.trans (if_neg (show ¬ (a1 < 0) from b1)) (Eq.trans (if_pos (show a1 < 24 from b7)) (if_pos (show a2 = 0 from b57))))))
      · refine k_aload_n (i := 0) dX11_setSitting_60 (rfl : 60 + 1 = 61) rfl rfl ?_
        refine k_get 11 0 fg_X11_12 dX11_setSitting_61 (rfl : 61 + 3 = 64) (Nat.le_of_ble_eq_true rfl) rfl rfl ?_
        refine k_get 9 1 fg_X11_260 dX11_setSitting_64 (rfl : 64 + 3 = 67) (Nat.le_of_ble_eq_true rfl) rfl rfl ?_
        refine k_get 3 1 fg_X11_269 dX11_setSitting_67 (rfl : 67 + 3 = 70) (Nat.le_of_ble_eq_true rfl) rfl rfl ?_
        refine k_iload (i := 4) dX11_setSitting_70 (rfl : 70 + 2 = 72) rfl ?_
        refine k_ior dX11_setSitting_72 (rfl : 72 + 1 = 73) ?_
        refine k_goto (tgt := 91) dX11_setSitting_73 (by decide) ?_
        refine k_put 3 1 fp_X11_269 dX11_setSitting_91 (rfl : 91 + 3 = 94) (Nat.le_of_ble_eq_true rfl) rfl (Nat.le_of_ble_eq_true rfl) rfl rfl ?_
        refine kf_S3 5 (v := ((((remS x 0).1 0).2.1 5) ||| (1 <<< ((a1 : Int32) &&& 31)))) ⟨rfl, rfl⟩ rfl ?_
        refine k_iload_n (i := 3) dX11_setSitting_94 (rfl : 94 + 1 = 95) rfl rfl ?_
        refine k_iret rfl sit_bool dX11_setSitting_95 (Nat.le_of_ble_eq_true rfl) (Nat.le_of_ble_eq_true rfl) ?_
        exact kRo_of (Eq.symm (Eq.trans (if_neg (show ¬ (a1 < 0) from b1)) (Eq.trans (if_pos (show a1 < 24 from b7)) (if_neg (show ¬ (a2 = 0) from b57))))) (congrArg (fun z => kTp (kHc z) r) (Eq.symm (Eq.trans (if_neg (show ¬ (a1 < 0) from b1)) (Eq.trans (if_pos (show a1 < 24 from b7)) (if_neg (show ¬ (a2 = 0) from b57))))))
    · refine k_throwW th_X11_72_76 tx_X11_258 rfl dX11_setSitting_10 dX11_setSitting_13 dX11_setSitting_14 dX11_setSitting_17 dX11_setSitting_20 (Nat.le_of_ble_eq_true rfl) (Nat.le_of_ble_eq_true rfl) ⟨(Nat.le_of_ble_eq_true rfl), (Nat.le_of_ble_eq_true rfl)⟩ (Nat.le_of_ble_eq_true rfl) (Nat.le_of_ble_eq_true rfl) ?_
      exact kRo_of (Eq.symm (Eq.trans (if_neg (show ¬ (a1 < 0) from b1)) (if_neg (show ¬ (a1 < 24) from b7)))) (congrArg (fun z => kTp (kHc z) r) (Eq.symm (Eq.trans (if_neg (show ¬ (a1 < 0) from b1)) (if_neg (show ¬ (a1 < 24) from b7)))))
def f_X11_sittingBits (x : kK)  : Int32 := ((x.1 0).2.1 5)
set_option maxRecDepth 100000 in
set_option maxHeartbeats 4000000 in
theorem m_X11_sittingBits {x : kK} {r : kH} : kMet kX11_sittingBits false 0 0 [.ref 0] (kTp (kHc x) r) 130 (kRt (some (.int (f_X11_sittingBits x ))) (kTp (kHc x) r) 130) := by
  refine kMet.in (by decide) rfl rfl _ rfl ?_
  refine k_aload_n (i := 0) dX11_sittingBits_0 (rfl : 0 + 1 = 1) rfl rfl ?_
  refine k_get 11 0 fg_X11_12 dX11_sittingBits_1 (rfl : 1 + 3 = 4) (Nat.le_of_ble_eq_true rfl) rfl rfl ?_
  refine k_get 9 1 fg_X11_260 dX11_sittingBits_4 (rfl : 4 + 3 = 7) (Nat.le_of_ble_eq_true rfl) rfl rfl ?_
  refine k_get 3 1 fg_X11_269 dX11_sittingBits_7 (rfl : 7 + 3 = 10) (Nat.le_of_ble_eq_true rfl) rfl rfl ?_
  refine k_iret rfl rfl dX11_sittingBits_10 (Nat.le_of_ble_eq_true rfl) (Nat.le_of_ble_eq_true rfl) ?_
  exact kRt_of rfl rfl
def f_X11_pleaCount (x : kK)  : Int32 := ((x.1 0).2.1 6)
set_option maxRecDepth 100000 in
set_option maxHeartbeats 4000000 in
theorem m_X11_pleaCount {x : kK} {r : kH} : kMet kX11_pleaCount false 0 0 [.ref 0] (kTp (kHc x) r) 130 (kRt (some (.int (f_X11_pleaCount x ))) (kTp (kHc x) r) 130) := by
  refine kMet.in (by decide) rfl rfl _ rfl ?_
  refine k_aload_n (i := 0) dX11_pleaCount_0 (rfl : 0 + 1 = 1) rfl rfl ?_
  refine k_get 11 0 fg_X11_12 dX11_pleaCount_1 (rfl : 1 + 3 = 4) (Nat.le_of_ble_eq_true rfl) rfl rfl ?_
  refine k_get 9 1 fg_X11_260 dX11_pleaCount_4 (rfl : 4 + 3 = 7) (Nat.le_of_ble_eq_true rfl) rfl rfl ?_
  refine k_get 3 2 fg_X11_272 dX11_pleaCount_7 (rfl : 7 + 3 = 10) (Nat.le_of_ble_eq_true rfl) rfl rfl ?_
  refine k_iret rfl rfl dX11_pleaCount_10 (Nat.le_of_ble_eq_true rfl) (Nat.le_of_ble_eq_true rfl) ?_
  exact kRt_of rfl rfl
def o_X11_pleaParty (x : kK) (a1 : Int32) : kOut := if (f_X3_hasPlea x a1) = 0 then (.inr "java/lang/IndexOutOfBoundsException") else (.inl (some (.int (((x.1 0).2.2 1) (Int32.toNatClampNeg a1)))))
set_option maxRecDepth 100000 in
set_option maxHeartbeats 4000000 in
theorem m_X11_pleaParty {x : kK} {r : kH} {a1 : Int32} (iv : kIv (x.1 0)) : kMet kX11_pleaParty false 1 6 [.ref 0, .int a1] (kTp (kHc x) r) 130 (kRo (o_X11_pleaParty x a1) (kTp (kHc x) r) 130) := by
  refine kMet.in (by decide) rfl rfl _ rfl ?_
  refine k_aload_n (i := 0) dX11_pleaParty_0 (rfl : 0 + 1 = 1) rfl rfl ?_
  refine k_get 11 0 fg_X11_12 dX11_pleaParty_1 (rfl : 1 + 3 = 4) (Nat.le_of_ble_eq_true rfl) rfl rfl ?_
  refine k_get 9 1 fg_X11_260 dX11_pleaParty_4 (rfl : 4 + 3 = 7) (Nat.le_of_ble_eq_true rfl) rfl rfl ?_
  refine k_iload_n (i := 1) dX11_pleaParty_7 (rfl : 7 + 1 = 8) rfl rfl ?_
  refine k_callVd1 cv_X11_275 ⟨Nat.le_of_ble_eq_true rfl, Nat.le_of_ble_eq_true rfl⟩ (m_X3_hasPlea) dX11_pleaParty_8 (rfl : 8 + 3 = 11) (Nat.le_of_ble_eq_true rfl) rfl rfl rfl ⟨Nat.le_of_ble_eq_true rfl, Nat.le_of_ble_eq_true rfl⟩ ?_
  refine k_if_ne (tgt := 25) dX11_pleaParty_11 (rfl : 11 + 3 = 14) (by decide) (fun b11 => ?_) (fun b11 => ?_)
  · refine k_aload_n (i := 0) dX11_pleaParty_25 (rfl : 25 + 1 = 26) rfl rfl ?_
    refine k_get 11 0 fg_X11_12 dX11_pleaParty_26 (rfl : 26 + 3 = 29) (Nat.le_of_ble_eq_true rfl) rfl rfl ?_
    refine k_get 9 1 fg_X11_260 dX11_pleaParty_29 (rfl : 29 + 3 = 32) (Nat.le_of_ble_eq_true rfl) rfl rfl ?_
    refine k_get 3 3 fg_X11_280 dX11_pleaParty_32 (rfl : 32 + 3 = 35) (Nat.le_of_ble_eq_true rfl) rfl rfl ?_
    refine k_iload_n (i := 1) dX11_pleaParty_35 (rfl : 35 + 1 = 36) rfl rfl ?_
    refine k_iald dX11_pleaParty_36 (rfl : 36 + 1 = 37) (Nat.le_of_ble_eq_true rfl) rfl (kIv_pc iv b11) ?_
    refine k_iret rfl rfl dX11_pleaParty_37 (Nat.le_of_ble_eq_true rfl) (Nat.le_of_ble_eq_true rfl) ?_
    exact kRo_of (Eq.symm (if_neg (show ¬ ((f_X3_hasPlea x a1) = 0) from b11))) rfl
  · refine k_throwW th_X11_72_76 tx_X11_278 rfl dX11_pleaParty_14 dX11_pleaParty_17 dX11_pleaParty_18 dX11_pleaParty_21 dX11_pleaParty_24 (Nat.le_of_ble_eq_true rfl) (Nat.le_of_ble_eq_true rfl) ⟨(Nat.le_of_ble_eq_true rfl), (Nat.le_of_ble_eq_true rfl)⟩ (Nat.le_of_ble_eq_true rfl) (Nat.le_of_ble_eq_true rfl) ?_
    exact kRo_of (Eq.symm (if_pos (show (f_X3_hasPlea x a1) = 0 from b11))) rfl
def o_X11_pleaFrom (x : kK) (a1 : Int32) : kOut := if (f_X3_hasPlea x a1) = 0 then (.inr "java/lang/IndexOutOfBoundsException") else (.inl (some (.int (((x.1 0).2.2 2) (Int32.toNatClampNeg a1)))))
set_option maxRecDepth 100000 in
set_option maxHeartbeats 4000000 in
theorem m_X11_pleaFrom {x : kK} {r : kH} {a1 : Int32} (iv : kIv (x.1 0)) : kMet kX11_pleaFrom false 1 6 [.ref 0, .int a1] (kTp (kHc x) r) 130 (kRo (o_X11_pleaFrom x a1) (kTp (kHc x) r) 130) := by
  refine kMet.in (by decide) rfl rfl _ rfl ?_
  refine k_aload_n (i := 0) dX11_pleaFrom_0 (rfl : 0 + 1 = 1) rfl rfl ?_
  refine k_get 11 0 fg_X11_12 dX11_pleaFrom_1 (rfl : 1 + 3 = 4) (Nat.le_of_ble_eq_true rfl) rfl rfl ?_
  refine k_get 9 1 fg_X11_260 dX11_pleaFrom_4 (rfl : 4 + 3 = 7) (Nat.le_of_ble_eq_true rfl) rfl rfl ?_
  refine k_iload_n (i := 1) dX11_pleaFrom_7 (rfl : 7 + 1 = 8) rfl rfl ?_
  refine k_callVd1 cv_X11_275 ⟨Nat.le_of_ble_eq_true rfl, Nat.le_of_ble_eq_true rfl⟩ (m_X3_hasPlea) dX11_pleaFrom_8 (rfl : 8 + 3 = 11) (Nat.le_of_ble_eq_true rfl) rfl rfl rfl ⟨Nat.le_of_ble_eq_true rfl, Nat.le_of_ble_eq_true rfl⟩ ?_
  refine k_if_ne (tgt := 25) dX11_pleaFrom_11 (rfl : 11 + 3 = 14) (by decide) (fun b11 => ?_) (fun b11 => ?_)
  · refine k_aload_n (i := 0) dX11_pleaFrom_25 (rfl : 25 + 1 = 26) rfl rfl ?_
    refine k_get 11 0 fg_X11_12 dX11_pleaFrom_26 (rfl : 26 + 3 = 29) (Nat.le_of_ble_eq_true rfl) rfl rfl ?_
    refine k_get 9 1 fg_X11_260 dX11_pleaFrom_29 (rfl : 29 + 3 = 32) (Nat.le_of_ble_eq_true rfl) rfl rfl ?_
    refine k_get 3 4 fg_X11_282 dX11_pleaFrom_32 (rfl : 32 + 3 = 35) (Nat.le_of_ble_eq_true rfl) rfl rfl ?_
    refine k_iload_n (i := 1) dX11_pleaFrom_35 (rfl : 35 + 1 = 36) rfl rfl ?_
    refine k_iald dX11_pleaFrom_36 (rfl : 36 + 1 = 37) (Nat.le_of_ble_eq_true rfl) rfl (kIv_pc iv b11) ?_
    refine k_iret rfl rfl dX11_pleaFrom_37 (Nat.le_of_ble_eq_true rfl) (Nat.le_of_ble_eq_true rfl) ?_
    exact kRo_of (Eq.symm (if_neg (show ¬ ((f_X3_hasPlea x a1) = 0) from b11))) rfl
  · refine k_throwW th_X11_72_76 tx_X11_278 rfl dX11_pleaFrom_14 dX11_pleaFrom_17 dX11_pleaFrom_18 dX11_pleaFrom_21 dX11_pleaFrom_24 (Nat.le_of_ble_eq_true rfl) (Nat.le_of_ble_eq_true rfl) ⟨(Nat.le_of_ble_eq_true rfl), (Nat.le_of_ble_eq_true rfl)⟩ (Nat.le_of_ble_eq_true rfl) (Nat.le_of_ble_eq_true rfl) ?_
    exact kRo_of (Eq.symm (if_pos (show (f_X3_hasPlea x a1) = 0 from b11))) rfl
def o_X11_pleaUntil (x : kK) (a1 : Int32) : kOut := if (f_X3_hasPlea x a1) = 0 then (.inr "java/lang/IndexOutOfBoundsException") else (.inl (some (.int (f_X3_lastHour x a1))))
set_option maxRecDepth 100000 in
set_option maxHeartbeats 4000000 in
theorem m_X11_pleaUntil {x : kK} {r : kH} {a1 : Int32} (iv : kIv (x.1 0)) : kMet kX11_pleaUntil false 1 6 [.ref 0, .int a1] (kTp (kHc x) r) 130 (kRo (o_X11_pleaUntil x a1) (kTp (kHc x) r) 130) := by
  refine kMet.in (by decide) rfl rfl _ rfl ?_
  refine k_aload_n (i := 0) dX11_pleaUntil_0 (rfl : 0 + 1 = 1) rfl rfl ?_
  refine k_get 11 0 fg_X11_12 dX11_pleaUntil_1 (rfl : 1 + 3 = 4) (Nat.le_of_ble_eq_true rfl) rfl rfl ?_
  refine k_get 9 1 fg_X11_260 dX11_pleaUntil_4 (rfl : 4 + 3 = 7) (Nat.le_of_ble_eq_true rfl) rfl rfl ?_
  refine k_iload_n (i := 1) dX11_pleaUntil_7 (rfl : 7 + 1 = 8) rfl rfl ?_
  refine k_callVd1 cv_X11_275 ⟨Nat.le_of_ble_eq_true rfl, Nat.le_of_ble_eq_true rfl⟩ (m_X3_hasPlea) dX11_pleaUntil_8 (rfl : 8 + 3 = 11) (Nat.le_of_ble_eq_true rfl) rfl rfl rfl ⟨Nat.le_of_ble_eq_true rfl, Nat.le_of_ble_eq_true rfl⟩ ?_
  refine k_if_ne (tgt := 25) dX11_pleaUntil_11 (rfl : 11 + 3 = 14) (by decide) (fun b11 => ?_) (fun b11 => ?_)
  · refine k_aload_n (i := 0) dX11_pleaUntil_25 (rfl : 25 + 1 = 26) rfl rfl ?_
    refine k_get 11 0 fg_X11_12 dX11_pleaUntil_26 (rfl : 26 + 3 = 29) (Nat.le_of_ble_eq_true rfl) rfl rfl ?_
    refine k_get 9 1 fg_X11_260 dX11_pleaUntil_29 (rfl : 29 + 3 = 32) (Nat.le_of_ble_eq_true rfl) rfl rfl ?_
    refine k_iload_n (i := 1) dX11_pleaUntil_32 (rfl : 32 + 1 = 33) rfl rfl ?_
    refine k_callVd1 cv_X11_285 ⟨Nat.le_of_ble_eq_true rfl, Nat.le_of_ble_eq_true rfl⟩ (m_X3_lastHour (kIv_pc iv b11)) dX11_pleaUntil_33 (rfl : 33 + 3 = 36) (Nat.le_of_ble_eq_true rfl) rfl rfl rfl ⟨Nat.le_of_ble_eq_true rfl, Nat.le_of_ble_eq_true rfl⟩ ?_
    refine k_iret rfl rfl dX11_pleaUntil_36 (Nat.le_of_ble_eq_true rfl) (Nat.le_of_ble_eq_true rfl) ?_
    exact kRo_of (Eq.symm (if_neg (show ¬ ((f_X3_hasPlea x a1) = 0) from b11))) rfl
  · refine k_throwW th_X11_72_76 tx_X11_278 rfl dX11_pleaUntil_14 dX11_pleaUntil_17 dX11_pleaUntil_18 dX11_pleaUntil_21 dX11_pleaUntil_24 (Nat.le_of_ble_eq_true rfl) (Nat.le_of_ble_eq_true rfl) ⟨(Nat.le_of_ble_eq_true rfl), (Nat.le_of_ble_eq_true rfl)⟩ (Nat.le_of_ble_eq_true rfl) (Nat.le_of_ble_eq_true rfl) ?_
    exact kRo_of (Eq.symm (if_pos (show (f_X3_hasPlea x a1) = 0 from b11))) rfl
def o_X11_hear (x : kK) (a1 : Int32) : kOut := if (f_X11_checkHearing x a1) = 1 then (.inr "java/lang/IndexOutOfBoundsException") else (if (f_X11_checkHearing x a1) = 4 then (.inr "java/lang/UnsupportedOperationException") else (.inl (some (.int (f_X11_holdHearing (remS (g_X11_checkHearing x a1) 0) a1)))))
def g_X11_hear (x : kK) (a1 : Int32) : kK := if (f_X11_checkHearing x a1) = 1 then (g_X11_checkHearing x a1) else (if (f_X11_checkHearing x a1) = 4 then (g_X11_checkHearing x a1) else (g_X11_holdHearing (remS (g_X11_checkHearing x a1) 0) a1))
set_option maxRecDepth 100000 in
set_option maxHeartbeats 4000000 in
theorem m_X11_hear {x : kK} {r : kH} {a1 : Int32} (hh : kHi x) (iv : kIv (x.1 0)) : kMet kX11_hear false 1 6 [.ref 0, .int a1] (kTp (kHc x) r) 130 (kRo (o_X11_hear x a1) (kTp (kHc (g_X11_hear x a1)) r) 130) := by
  refine kMet.in (by decide) rfl rfl _ rfl ?_
  refine k_aload_n (i := 0) dX11_hear_0 (rfl : 0 + 1 = 1) rfl rfl ?_
  refine k_iload_n (i := 1) dX11_hear_1 (rfl : 1 + 1 = 2) rfl rfl ?_
  refine k_callVd1 cv_X11_288 ⟨Nat.le_of_ble_eq_true rfl, Nat.le_of_ble_eq_true rfl⟩ (m_X11_checkHearing iv) dX11_hear_2 (rfl : 2 + 3 = 5) (Nat.le_of_ble_eq_true rfl) rfl rfl rfl ⟨Nat.le_of_ble_eq_true rfl, Nat.le_of_ble_eq_true rfl⟩ ?_
  refine k_istore_n (i := 2) dX11_hear_5 (rfl : 5 + 1 = 6) rfl (Nat.le_of_ble_eq_true rfl) ?_
  refine k_ls (ls2 := [.ref 0, .int a1, .int (f_X11_checkHearing x a1)]) rfl ?_
  refine k_iload_n (i := 2) dX11_hear_6 (rfl : 6 + 1 = 7) rfl rfl ?_
  refine k_iconst (v := 1) dX11_hear_7 (rfl : 7 + 1 = 8) (by decide) ?_
  refine k_icmp_ne (tgt := 22) dX11_hear_8 (rfl : 8 + 3 = 11) (by decide) (fun b8 => ?_) (fun b8 => ?_)
  · refine k_iload_n (i := 2) dX11_hear_22 (rfl : 22 + 1 = 23) rfl rfl ?_
    refine k_iconst (v := 4) dX11_hear_23 (rfl : 23 + 1 = 24) (by decide) ?_
    refine k_icmp_ne (tgt := 38) dX11_hear_24 (rfl : 24 + 3 = 27) (by decide) (fun b24 => ?_) (fun b24 => ?_)
    · refine k_aload_n (i := 0) dX11_hear_38 (rfl : 38 + 1 = 39) rfl rfl ?_
      refine k_get 11 3 fg_X11_25 dX11_hear_39 (rfl : 39 + 3 = 42) (Nat.le_of_ble_eq_true rfl) rfl rfl ?_
      refine k_aload_n (i := 0) dX11_hear_42 (rfl : 42 + 1 = 43) rfl rfl ?_
      refine k_get 11 0 fg_X11_12 dX11_hear_43 (rfl : 43 + 3 = 46) (Nat.le_of_ble_eq_true rfl) rfl rfl ?_
      refine k_callVv1 cv_X11_84 ⟨Nat.le_of_ble_eq_true rfl, Nat.le_of_ble_eq_true rfl⟩ (m_rem0 (hi_kp kp_checkHearing hh)) dX11_hear_46 (rfl : 46 + 3 = 49) (Nat.le_of_ble_eq_true rfl) rfl rfl rfl ⟨Nat.le_of_ble_eq_true rfl, Nat.le_of_ble_eq_true rfl⟩ ?_
      refine k_aload_n (i := 0) dX11_hear_49 (rfl : 49 + 1 = 50) rfl rfl ?_
      refine k_iload_n (i := 1) dX11_hear_50 (rfl : 50 + 1 = 51) rfl rfl ?_
      refine k_callVd1 cv_X11_293 ⟨Nat.le_of_ble_eq_true rfl, Nat.le_of_ble_eq_true rfl⟩ (m_X11_holdHearing (iv_rem (iv_kp kp_checkHearing iv)) (by rw [hp_eq (x := x) (by rw [rem_0 (by decide), kp_checkHearing.1])]; exact ch_f b8)) dX11_hear_51 (rfl : 51 + 3 = 54) (Nat.le_of_ble_eq_true rfl) rfl rfl rfl ⟨Nat.le_of_ble_eq_true rfl, Nat.le_of_ble_eq_true rfl⟩ ?_
      refine k_iret rfl rfl dX11_hear_54 (Nat.le_of_ble_eq_true rfl) (Nat.le_of_ble_eq_true rfl) ?_
      exact kRo_of (Eq.symm (Eq.trans (if_neg (show ¬ ((f_X11_checkHearing x a1) = 1) from b8)) (if_neg (show ¬ ((f_X11_checkHearing x a1) = 4) from b24)))) (congrArg (fun z => kTp (kHc z) r) (Eq.symm (Eq.trans (if_neg (show ¬ ((f_X11_checkHearing x a1) = 1) from b8)) (if_neg (show ¬ ((f_X11_checkHearing x a1) = 4) from b24)))))
    · refine k_throwW th_X11_79_83 tx_X11_291 rfl dX11_hear_27 dX11_hear_30 dX11_hear_31 dX11_hear_34 dX11_hear_37 (Nat.le_of_ble_eq_true rfl) (Nat.le_of_ble_eq_true rfl) ⟨(Nat.le_of_ble_eq_true rfl), (Nat.le_of_ble_eq_true rfl)⟩ (Nat.le_of_ble_eq_true rfl) (Nat.le_of_ble_eq_true rfl) ?_
      exact kRo_of (Eq.symm (Eq.trans (if_neg (show ¬ ((f_X11_checkHearing x a1) = 1) from b8)) (if_pos (show (f_X11_checkHearing x a1) = 4 from b24)))) (congrArg (fun z => kTp (kHc z) r) (Eq.symm (Eq.trans (if_neg (show ¬ ((f_X11_checkHearing x a1) = 1) from b8)) (if_pos (show (f_X11_checkHearing x a1) = 4 from b24)))))
  · refine k_throwW th_X11_72_76 tx_X11_278 rfl dX11_hear_11 dX11_hear_14 dX11_hear_15 dX11_hear_18 dX11_hear_21 (Nat.le_of_ble_eq_true rfl) (Nat.le_of_ble_eq_true rfl) ⟨(Nat.le_of_ble_eq_true rfl), (Nat.le_of_ble_eq_true rfl)⟩ (Nat.le_of_ble_eq_true rfl) (Nat.le_of_ble_eq_true rfl) ?_
    exact kRo_of (Eq.symm (if_pos (show (f_X11_checkHearing x a1) = 1 from b8))) (congrArg (fun z => kTp (kHc z) r) (Eq.symm (if_pos (show (f_X11_checkHearing x a1) = 1 from b8))))
def f_X11_mostHearings (x : kK)  : Int32 := (f_X5_mostByQueue x )
def g_X11_mostHearings (x : kK)  : kK := (g_X5_mostByQueue x )
set_option maxRecDepth 100000 in
set_option maxHeartbeats 4000000 in
theorem m_X11_mostHearings {x : kK} {r : kH} (iv : kIv (x.1 0)) (hc : kChn x) : kMet kX11_mostHearings false 0 0 [.ref 0] (kTp (kHc x) r) 130 (kRt (some (.int (f_X11_mostHearings x ))) (kTp (kHc (g_X11_mostHearings x )) r) 130) := by
  refine kMet.in (by decide) rfl rfl _ rfl ?_
  refine k_aload_n (i := 0) dX11_mostHearings_0 (rfl : 0 + 1 = 1) rfl rfl ?_
  refine k_get 11 5 fg_X11_39 dX11_mostHearings_1 (rfl : 1 + 3 = 4) (Nat.le_of_ble_eq_true rfl) rfl rfl ?_
  refine k_aload_n (i := 0) dX11_mostHearings_4 (rfl : 4 + 1 = 5) rfl rfl ?_
  refine k_get 11 0 fg_X11_12 dX11_mostHearings_5 (rfl : 5 + 3 = 8) (Nat.le_of_ble_eq_true rfl) rfl rfl ?_
  refine k_get 9 1 fg_X11_260 dX11_mostHearings_8 (rfl : 8 + 3 = 11) (Nat.le_of_ble_eq_true rfl) rfl rfl ?_
  refine k_callVd1 cv_X11_296 ⟨Nat.le_of_ble_eq_true rfl, Nat.le_of_ble_eq_true rfl⟩ (m_X5_mostByQueue iv hc.2.2.2) dX11_mostHearings_11 (rfl : 11 + 3 = 14) (Nat.le_of_ble_eq_true rfl) rfl rfl rfl ⟨Nat.le_of_ble_eq_true rfl, Nat.le_of_ble_eq_true rfl⟩ ?_
  refine k_iret rfl rfl dX11_mostHearings_14 (Nat.le_of_ble_eq_true rfl) (Nat.le_of_ble_eq_true rfl) ?_
  exact kRt_of rfl rfl
def f_X11_mostHearingsByChains (x : kK)  : Int32 := (f_X5_mostByChains x )
def g_X11_mostHearingsByChains (x : kK)  : kK := (g_X5_mostByChains x )
set_option maxRecDepth 100000 in
set_option maxHeartbeats 4000000 in
theorem m_X11_mostHearingsByChains {x : kK} {r : kH} (iv : kIv (x.1 0)) (hc : kChn x) : kMet kX11_mostHearingsByChains false 0 0 [.ref 0] (kTp (kHc x) r) 130 (kRt (some (.int (f_X11_mostHearingsByChains x ))) (kTp (kHc (g_X11_mostHearingsByChains x )) r) 130) := by
  refine kMet.in (by decide) rfl rfl _ rfl ?_
  refine k_aload_n (i := 0) dX11_mostHearingsByChains_0 (rfl : 0 + 1 = 1) rfl rfl ?_
  refine k_get 11 5 fg_X11_39 dX11_mostHearingsByChains_1 (rfl : 1 + 3 = 4) (Nat.le_of_ble_eq_true rfl) rfl rfl ?_
  refine k_aload_n (i := 0) dX11_mostHearingsByChains_4 (rfl : 4 + 1 = 5) rfl rfl ?_
  refine k_get 11 0 fg_X11_12 dX11_mostHearingsByChains_5 (rfl : 5 + 3 = 8) (Nat.le_of_ble_eq_true rfl) rfl rfl ?_
  refine k_get 9 1 fg_X11_260 dX11_mostHearingsByChains_8 (rfl : 8 + 3 = 11) (Nat.le_of_ble_eq_true rfl) rfl rfl ?_
  refine k_callVd1 cv_X11_300 ⟨Nat.le_of_ble_eq_true rfl, Nat.le_of_ble_eq_true rfl⟩ (m_X5_mostByChains iv hc) dX11_mostHearingsByChains_11 (rfl : 11 + 3 = 14) (Nat.le_of_ble_eq_true rfl) rfl rfl rfl ⟨Nat.le_of_ble_eq_true rfl, Nat.le_of_ble_eq_true rfl⟩ ?_
  refine k_iret rfl rfl dX11_mostHearingsByChains_14 (Nat.le_of_ble_eq_true rfl) (Nat.le_of_ble_eq_true rfl) ?_
  exact kRt_of rfl rfl
def o_X11_pass (x : kK) (a1 : Int32) : kOut := if (f_X11_checkPassing a1) = 0 then (.inl (some (.int (f_X11_passHours (remS x 0) a1)))) else (.inr "java/lang/IllegalArgumentException")
def g_X11_pass (x : kK) (a1 : Int32) : kK := if (f_X11_checkPassing a1) = 0 then (g_X11_passHours (remS x 0) a1) else x
set_option maxRecDepth 100000 in
set_option maxHeartbeats 4000000 in
theorem m_X11_pass {x : kK} {r : kH} {a1 : Int32} (hh : kHi x) (iv : kIv (x.1 0)) : kMet kX11_pass false 1 6 [.ref 0, .int a1] (kTp (kHc x) r) 130 (kRo (o_X11_pass x a1) (kTp (kHc (g_X11_pass x a1)) r) 130) := by
  refine kMet.in (by decide) rfl rfl _ rfl ?_
  refine k_aload_n (i := 0) dX11_pass_0 (rfl : 0 + 1 = 1) rfl rfl ?_
  refine k_iload_n (i := 1) dX11_pass_1 (rfl : 1 + 1 = 2) rfl rfl ?_
  refine k_callVd1 cv_X11_303 ⟨Nat.le_of_ble_eq_true rfl, Nat.le_of_ble_eq_true rfl⟩ (m_X11_checkPassing) dX11_pass_2 (rfl : 2 + 3 = 5) (Nat.le_of_ble_eq_true rfl) rfl rfl rfl ⟨Nat.le_of_ble_eq_true rfl, Nat.le_of_ble_eq_true rfl⟩ ?_
  refine k_if_eq (tgt := 18) dX11_pass_5 (rfl : 5 + 3 = 8) (by decide) (fun b5 => ?_) (fun b5 => ?_)
  · refine k_aload_n (i := 0) dX11_pass_18 (rfl : 18 + 1 = 19) rfl rfl ?_
    refine k_get 11 3 fg_X11_25 dX11_pass_19 (rfl : 19 + 3 = 22) (Nat.le_of_ble_eq_true rfl) rfl rfl ?_
    refine k_aload_n (i := 0) dX11_pass_22 (rfl : 22 + 1 = 23) rfl rfl ?_
    refine k_get 11 0 fg_X11_12 dX11_pass_23 (rfl : 23 + 3 = 26) (Nat.le_of_ble_eq_true rfl) rfl rfl ?_
    refine k_callVv1 cv_X11_84 ⟨Nat.le_of_ble_eq_true rfl, Nat.le_of_ble_eq_true rfl⟩ (m_rem0 hh) dX11_pass_26 (rfl : 26 + 3 = 29) (Nat.le_of_ble_eq_true rfl) rfl rfl rfl ⟨Nat.le_of_ble_eq_true rfl, Nat.le_of_ble_eq_true rfl⟩ ?_
    refine k_aload_n (i := 0) dX11_pass_29 (rfl : 29 + 1 = 30) rfl rfl ?_
    refine k_iload_n (i := 1) dX11_pass_30 (rfl : 30 + 1 = 31) rfl rfl ?_
    refine k_callVd1 cv_X11_306 ⟨Nat.le_of_ble_eq_true rfl, Nat.le_of_ble_eq_true rfl⟩ (m_X11_passHours (iv_rem iv)) dX11_pass_31 (rfl : 31 + 3 = 34) (Nat.le_of_ble_eq_true rfl) rfl rfl rfl ⟨Nat.le_of_ble_eq_true rfl, Nat.le_of_ble_eq_true rfl⟩ ?_
    refine k_iret rfl rfl dX11_pass_34 (Nat.le_of_ble_eq_true rfl) (Nat.le_of_ble_eq_true rfl) ?_
    exact kRo_of (Eq.symm (if_pos (show (f_X11_checkPassing a1) = 0 from b5))) (congrArg (fun z => kTp (kHc z) r) (Eq.symm (if_pos (show (f_X11_checkPassing a1) = 0 from b5))))
  · refine k_throw th_X11_134_138 tx_X11_245 rfl dX11_pass_8 dX11_pass_11 dX11_pass_12 dX11_pass_14 dX11_pass_17 (Nat.le_of_ble_eq_true rfl) (Nat.le_of_ble_eq_true rfl) ⟨(Nat.le_of_ble_eq_true rfl), (Nat.le_of_ble_eq_true rfl)⟩ (Nat.le_of_ble_eq_true rfl) (Nat.le_of_ble_eq_true rfl) ?_
    exact kRo_of (Eq.symm (if_neg (show ¬ ((f_X11_checkPassing a1) = 0) from b5))) (congrArg (fun z => kTp (kHc z) r) (Eq.symm (if_neg (show ¬ ((f_X11_checkPassing a1) = 0) from b5))))
def f_X11_hour (x : kK)  : Int32 := ((x.1 0).2.1 4)
set_option maxRecDepth 100000 in
set_option maxHeartbeats 4000000 in
theorem m_X11_hour {x : kK} {r : kH} : kMet kX11_hour false 0 0 [.ref 0] (kTp (kHc x) r) 130 (kRt (some (.int (f_X11_hour x ))) (kTp (kHc x) r) 130) := by
  refine kMet.in (by decide) rfl rfl _ rfl ?_
  refine k_aload_n (i := 0) dX11_hour_0 (rfl : 0 + 1 = 1) rfl rfl ?_
  refine k_get 11 0 fg_X11_12 dX11_hour_1 (rfl : 1 + 3 = 4) (Nat.le_of_ble_eq_true rfl) rfl rfl ?_
  refine k_get 9 1 fg_X11_260 dX11_hour_4 (rfl : 4 + 3 = 7) (Nat.le_of_ble_eq_true rfl) rfl rfl ?_
  refine k_get 3 0 fg_X11_309 dX11_hour_7 (rfl : 7 + 3 = 10) (Nat.le_of_ble_eq_true rfl) rfl rfl ?_
  refine k_iret rfl rfl dX11_hour_10 (Nat.le_of_ble_eq_true rfl) (Nat.le_of_ble_eq_true rfl) ?_
  exact kRt_of rfl rfl
def f_X11_coins (x : kK)  : Int32 := ((x.1 0).2.1 8)
set_option maxRecDepth 100000 in
set_option maxHeartbeats 4000000 in
theorem m_X11_coins {x : kK} {r : kH} : kMet kX11_coins false 0 0 [.ref 0] (kTp (kHc x) r) 130 (kRt (some (.int (f_X11_coins x ))) (kTp (kHc x) r) 130) := by
  refine kMet.in (by decide) rfl rfl _ rfl ?_
  refine k_aload_n (i := 0) dX11_coins_0 (rfl : 0 + 1 = 1) rfl rfl ?_
  refine k_get 11 0 fg_X11_12 dX11_coins_1 (rfl : 1 + 3 = 4) (Nat.le_of_ble_eq_true rfl) rfl rfl ?_
  refine k_get 9 2 fg_X11_190 dX11_coins_4 (rfl : 4 + 3 = 7) (Nat.le_of_ble_eq_true rfl) rfl rfl ?_
  refine k_get 7 1 fg_X11_312 dX11_coins_7 (rfl : 7 + 3 = 10) (Nat.le_of_ble_eq_true rfl) rfl rfl ?_
  refine k_iret rfl rfl dX11_coins_10 (Nat.le_of_ble_eq_true rfl) (Nat.le_of_ble_eq_true rfl) ?_
  exact kRt_of rfl rfl
def f_X11_coinsByAccounts (x : kK)  : Int32 := (((50 + ((x.1 0).2.1 9)) - ((x.1 0).2.1 10)) - ((x.1 0).2.1 11))
set_option maxRecDepth 100000 in
set_option maxHeartbeats 4000000 in
theorem m_X11_coinsByAccounts {x : kK} {r : kH} : kMet kX11_coinsByAccounts false 0 0 [.ref 0] (kTp (kHc x) r) 130 (kRt (some (.int (f_X11_coinsByAccounts x ))) (kTp (kHc x) r) 130) := by
  refine kMet.in (by decide) rfl rfl _ rfl ?_
  refine k_aload_n (i := 0) dX11_coinsByAccounts_0 (rfl : 0 + 1 = 1) rfl rfl ?_
  refine k_get 11 0 fg_X11_12 dX11_coinsByAccounts_1 (rfl : 1 + 3 = 4) (Nat.le_of_ble_eq_true rfl) rfl rfl ?_
  refine k_get 9 2 fg_X11_190 dX11_coinsByAccounts_4 (rfl : 4 + 3 = 7) (Nat.le_of_ble_eq_true rfl) rfl rfl ?_
  refine k_astore_n (i := 1) dX11_coinsByAccounts_7 (rfl : 7 + 1 = 8) rfl (Nat.le_of_ble_eq_true rfl) ?_
  refine k_ls (ls2 := [.ref 0, .ref 8]) rfl ?_
  refine k_bipush (v := 50) dX11_coinsByAccounts_8 (rfl : 8 + 2 = 10) (by decide) ?_
  refine k_aload_n (i := 1) dX11_coinsByAccounts_10 (rfl : 10 + 1 = 11) rfl rfl ?_
  refine k_get 7 2 fg_X11_315 dX11_coinsByAccounts_11 (rfl : 11 + 3 = 14) (Nat.le_of_ble_eq_true rfl) rfl rfl ?_
  refine k_iadd dX11_coinsByAccounts_14 (rfl : 14 + 1 = 15) ?_
  refine k_aload_n (i := 1) dX11_coinsByAccounts_15 (rfl : 15 + 1 = 16) rfl rfl ?_
  refine k_get 7 3 fg_X11_318 dX11_coinsByAccounts_16 (rfl : 16 + 3 = 19) (Nat.le_of_ble_eq_true rfl) rfl rfl ?_
  refine k_isub dX11_coinsByAccounts_19 (rfl : 19 + 1 = 20) ?_
  refine k_aload_n (i := 1) dX11_coinsByAccounts_20 (rfl : 20 + 1 = 21) rfl rfl ?_
  refine k_get 7 4 fg_X11_321 dX11_coinsByAccounts_21 (rfl : 21 + 3 = 24) (Nat.le_of_ble_eq_true rfl) rfl rfl ?_
  refine k_isub dX11_coinsByAccounts_24 (rfl : 24 + 1 = 25) ?_
  refine k_iret rfl rfl dX11_coinsByAccounts_25 (Nat.le_of_ble_eq_true rfl) (Nat.le_of_ble_eq_true rfl) ?_
  exact kRt_of rfl rfl
def o_X11_refusalReason (x : kK)  : kOut := if (x.2.1 9) = 0 then (.inr "java/util/NoSuchElementException") else (.inl (some (.int (x.2.1 9))))
set_option maxRecDepth 100000 in
set_option maxHeartbeats 4000000 in
theorem m_X11_refusalReason {x : kK} {r : kH} : kMet kX11_refusalReason false 1 6 [.ref 0] (kTp (kHc x) r) 130 (kRo (o_X11_refusalReason x ) (kTp (kHc x) r) 130) := by
  refine kMet.in (by decide) rfl rfl _ rfl ?_
  refine k_aload_n (i := 0) dX11_refusalReason_0 (rfl : 0 + 1 = 1) rfl rfl ?_
  refine k_get 11 10 fg_X11_324 dX11_refusalReason_1 (rfl : 1 + 3 = 4) (Nat.le_of_ble_eq_true rfl) rfl rfl ?_
  refine k_if_ne (tgt := 18) dX11_refusalReason_4 (rfl : 4 + 3 = 7) (by decide) (fun b4 => ?_) (fun b4 => ?_)
  · refine k_aload_n (i := 0) dX11_refusalReason_18 (rfl : 18 + 1 = 19) rfl rfl ?_
    refine k_get 11 10 fg_X11_324 dX11_refusalReason_19 (rfl : 19 + 3 = 22) (Nat.le_of_ble_eq_true rfl) rfl rfl ?_
    refine k_iret rfl rfl dX11_refusalReason_22 (Nat.le_of_ble_eq_true rfl) (Nat.le_of_ble_eq_true rfl) ?_
    exact kRo_of (Eq.symm (if_neg (show ¬ ((x.2.1 9) = 0) from b4))) rfl
  · refine k_throwNW thN_X11 tx_X11_327 rfl dX11_refusalReason_7 dX11_refusalReason_10 dX11_refusalReason_11 dX11_refusalReason_14 dX11_refusalReason_17 (Nat.le_of_ble_eq_true rfl) (Nat.le_of_ble_eq_true rfl) ⟨(Nat.le_of_ble_eq_true rfl), (Nat.le_of_ble_eq_true rfl)⟩ (Nat.le_of_ble_eq_true rfl) (Nat.le_of_ble_eq_true rfl) ?_
    exact kRo_of (Eq.symm (if_pos (show (x.2.1 9) = 0 from b4))) rfl
def o_X11_refusalDetail (x : kK)  : kOut := if (x.2.1 9) = 0 then (.inr "java/util/NoSuchElementException") else (.inl (some (.int (x.2.1 10))))
set_option maxRecDepth 100000 in
set_option maxHeartbeats 4000000 in
theorem m_X11_refusalDetail {x : kK} {r : kH} : kMet kX11_refusalDetail false 1 6 [.ref 0] (kTp (kHc x) r) 130 (kRo (o_X11_refusalDetail x ) (kTp (kHc x) r) 130) := by
  refine kMet.in (by decide) rfl rfl _ rfl ?_
  refine k_aload_n (i := 0) dX11_refusalDetail_0 (rfl : 0 + 1 = 1) rfl rfl ?_
  refine k_get 11 10 fg_X11_324 dX11_refusalDetail_1 (rfl : 1 + 3 = 4) (Nat.le_of_ble_eq_true rfl) rfl rfl ?_
  refine k_if_ne (tgt := 18) dX11_refusalDetail_4 (rfl : 4 + 3 = 7) (by decide) (fun b4 => ?_) (fun b4 => ?_)
  · refine k_aload_n (i := 0) dX11_refusalDetail_18 (rfl : 18 + 1 = 19) rfl rfl ?_
    refine k_get 11 11 fg_X11_329 dX11_refusalDetail_19 (rfl : 19 + 3 = 22) (Nat.le_of_ble_eq_true rfl) rfl rfl ?_
    refine k_iret rfl rfl dX11_refusalDetail_22 (Nat.le_of_ble_eq_true rfl) (Nat.le_of_ble_eq_true rfl) ?_
    exact kRo_of (Eq.symm (if_neg (show ¬ ((x.2.1 9) = 0) from b4))) rfl
  · refine k_throwNW thN_X11 tx_X11_327 rfl dX11_refusalDetail_7 dX11_refusalDetail_10 dX11_refusalDetail_11 dX11_refusalDetail_14 dX11_refusalDetail_17 (Nat.le_of_ble_eq_true rfl) (Nat.le_of_ble_eq_true rfl) ⟨(Nat.le_of_ble_eq_true rfl), (Nat.le_of_ble_eq_true rfl)⟩ (Nat.le_of_ble_eq_true rfl) (Nat.le_of_ble_eq_true rfl) ?_
    exact kRo_of (Eq.symm (if_pos (show (x.2.1 9) = 0 from b4))) rfl
def o_X11_append (x : kK) (a1 : Int32) : kOut := if a1 < 32 then (.inr "java/lang/IllegalArgumentException") else (if a1 ≤ 126 then (if (x.2.1 4) < 60 then (.inl (some (.int ((g_X2_put x a1).2.1 4)))) else (.inr "java/lang/IllegalStateException")) else (.inr "java/lang/IllegalArgumentException"))
def g_X11_append (x : kK) (a1 : Int32) : kK := if a1 < 32 then x else (if a1 ≤ 126 then (if (x.2.1 4) < 60 then (g_X2_put x a1) else x) else x)
set_option maxRecDepth 100000 in
set_option maxHeartbeats 4000000 in
theorem m_X11_append {x : kK} {r : kH} {a1 : Int32} (hl : kTl x) : kMet kX11_append false 1 6 [.ref 0, .int a1] (kTp (kHc x) r) 130 (kRo (o_X11_append x a1) (kTp (kHc (g_X11_append x a1)) r) 130) := by
  refine kMet.in (by decide) rfl rfl _ rfl ?_
  refine k_iload_n (i := 1) dX11_append_0 (rfl : 0 + 1 = 1) rfl rfl ?_
  refine k_bipush (v := 32) dX11_append_1 (rfl : 1 + 2 = 3) (by decide) ?_
  refine k_icmp_lt (tgt := 12) dX11_append_3 (rfl : 3 + 3 = 6) (by decide) (fun b3 => ?_) (fun b3 => ?_)
  · refine k_throwW th_X11_134_138 tx_X11_350 rfl dX11_append_12 dX11_append_15 dX11_append_16 dX11_append_19 dX11_append_22 (Nat.le_of_ble_eq_true rfl) (Nat.le_of_ble_eq_true rfl) ⟨(Nat.le_of_ble_eq_true rfl), (Nat.le_of_ble_eq_true rfl)⟩ (Nat.le_of_ble_eq_true rfl) (Nat.le_of_ble_eq_true rfl) ?_
    exact kRo_of (Eq.symm (if_pos (show a1 < 32 from b3))) (congrArg (fun z => kTp (kHc z) r) (Eq.symm (if_pos (show a1 < 32 from b3))))
  · refine k_iload_n (i := 1) dX11_append_6 (rfl : 6 + 1 = 7) rfl rfl ?_
    refine k_bipush (v := 126) dX11_append_7 (rfl : 7 + 2 = 9) (by decide) ?_
    refine k_icmp_le (tgt := 23) dX11_append_9 (rfl : 9 + 3 = 12) (by decide) (fun b9 => ?_) (fun b9 => ?_)
    · refine k_aload_n (i := 0) dX11_append_23 (rfl : 23 + 1 = 24) rfl rfl ?_
      refine k_get 11 6 fg_X11_46 dX11_append_24 (rfl : 24 + 3 = 27) (Nat.le_of_ble_eq_true rfl) rfl rfl ?_
      refine k_get 2 1 fg_X11_352 dX11_append_27 (rfl : 27 + 3 = 30) (Nat.le_of_ble_eq_true rfl) rfl rfl ?_
      refine k_bipush (v := 60) dX11_append_30 (rfl : 30 + 2 = 32) (by decide) ?_
      refine k_icmp_lt (tgt := 46) dX11_append_32 (rfl : 32 + 3 = 35) (by decide) (fun b32 => ?_) (fun b32 => ?_)
      · refine k_aload_n (i := 0) dX11_append_46 (rfl : 46 + 1 = 47) rfl rfl ?_
        refine k_get 11 6 fg_X11_46 dX11_append_47 (rfl : 47 + 3 = 50) (Nat.le_of_ble_eq_true rfl) rfl rfl ?_
        refine k_iload_n (i := 1) dX11_append_50 (rfl : 50 + 1 = 51) rfl rfl ?_
        refine k_callVv1 cv_X11_355 ⟨Nat.le_of_ble_eq_true rfl, Nat.le_of_ble_eq_true rfl⟩ (m_X2_put hl) dX11_append_51 (rfl : 51 + 3 = 54) (Nat.le_of_ble_eq_true rfl) rfl rfl rfl ⟨Nat.le_of_ble_eq_true rfl, Nat.le_of_ble_eq_true rfl⟩ ?_
        refine k_aload_n (i := 0) dX11_append_54 (rfl : 54 + 1 = 55) rfl rfl ?_
        refine k_get 11 6 fg_X11_46 dX11_append_55 (rfl : 55 + 3 = 58) (Nat.le_of_ble_eq_true rfl) rfl rfl ?_
        refine k_get 2 1 fg_X11_352 dX11_append_58 (rfl : 58 + 3 = 61) (Nat.le_of_ble_eq_true rfl) rfl rfl ?_
        refine k_iret rfl rfl dX11_append_61 (Nat.le_of_ble_eq_true rfl) (Nat.le_of_ble_eq_true rfl) ?_
        exact kRo_of (Eq.symm (Eq.trans (if_neg (show ¬ (a1 < 32) from b3)) (Eq.trans (if_pos (show a1 ≤ 126 from b9)) (if_pos (show (x.2.1 4) < 60 from b32))))) (congrArg (fun z => kTp (kHc z) r) (Eq.symm (Eq.trans (if_neg (show ¬ (a1 < 32) from b3)) (Eq.trans (if_pos (show a1 ≤ 126 from b9)) (if_pos (show (x.2.1 4) < 60 from b32))))))
      · refine k_throwW th_X11_148_152 tx_X11_353 rfl dX11_append_35 dX11_append_38 dX11_append_39 dX11_append_42 dX11_append_45 (Nat.le_of_ble_eq_true rfl) (Nat.le_of_ble_eq_true rfl) ⟨(Nat.le_of_ble_eq_true rfl), (Nat.le_of_ble_eq_true rfl)⟩ (Nat.le_of_ble_eq_true rfl) (Nat.le_of_ble_eq_true rfl) ?_
        exact kRo_of (Eq.symm (Eq.trans (if_neg (show ¬ (a1 < 32) from b3)) (Eq.trans (if_pos (show a1 ≤ 126 from b9)) (if_neg (show ¬ ((x.2.1 4) < 60) from b32))))) (congrArg (fun z => kTp (kHc z) r) (Eq.symm (Eq.trans (if_neg (show ¬ (a1 < 32) from b3)) (Eq.trans (if_pos (show a1 ≤ 126 from b9)) (if_neg (show ¬ ((x.2.1 4) < 60) from b32))))))
    · refine k_throwW th_X11_134_138 tx_X11_350 rfl dX11_append_12 dX11_append_15 dX11_append_16 dX11_append_19 dX11_append_22 (Nat.le_of_ble_eq_true rfl) (Nat.le_of_ble_eq_true rfl) ⟨(Nat.le_of_ble_eq_true rfl), (Nat.le_of_ble_eq_true rfl)⟩ (Nat.le_of_ble_eq_true rfl) (Nat.le_of_ble_eq_true rfl) ?_
      exact kRo_of (Eq.symm (Eq.trans (if_neg (show ¬ (a1 < 32) from b3)) (if_neg (show ¬ (a1 ≤ 126) from b9)))) (congrArg (fun z => kTp (kHc z) r) (Eq.symm (Eq.trans (if_neg (show ¬ (a1 < 32) from b3)) (if_neg (show ¬ (a1 ≤ 126) from b9)))))
def o_X11_errorPosition (x : kK)  : kOut := if (x.2.1 11) = (-1) then (.inr "java/util/NoSuchElementException") else (.inl (some (.int (x.2.1 11))))
set_option maxRecDepth 100000 in
set_option maxHeartbeats 4000000 in
theorem m_X11_errorPosition {x : kK} {r : kH} : kMet kX11_errorPosition false 1 6 [.ref 0] (kTp (kHc x) r) 130 (kRo (o_X11_errorPosition x ) (kTp (kHc x) r) 130) := by
  refine kMet.in (by decide) rfl rfl _ rfl ?_
  refine k_aload_n (i := 0) dX11_errorPosition_0 (rfl : 0 + 1 = 1) rfl rfl ?_
  refine k_get 11 12 fg_X11_61 dX11_errorPosition_1 (rfl : 1 + 3 = 4) (Nat.le_of_ble_eq_true rfl) rfl rfl ?_
  refine k_iconst (v := (-1)) dX11_errorPosition_4 (rfl : 4 + 1 = 5) (by decide) ?_
  refine k_icmp_ne (tgt := 19) dX11_errorPosition_5 (rfl : 5 + 3 = 8) (by decide) (fun b5 => ?_) (fun b5 => ?_)
  · refine k_aload_n (i := 0) dX11_errorPosition_19 (rfl : 19 + 1 = 20) rfl rfl ?_
    refine k_get 11 12 fg_X11_61 dX11_errorPosition_20 (rfl : 20 + 3 = 23) (Nat.le_of_ble_eq_true rfl) rfl rfl ?_
    refine k_iret rfl rfl dX11_errorPosition_23 (Nat.le_of_ble_eq_true rfl) (Nat.le_of_ble_eq_true rfl) ?_
    exact kRo_of (Eq.symm (if_neg (show ¬ ((x.2.1 11) = (-1)) from b5))) rfl
  · refine k_throwNW thN_X11 tx_X11_378 rfl dX11_errorPosition_8 dX11_errorPosition_11 dX11_errorPosition_12 dX11_errorPosition_15 dX11_errorPosition_18 (Nat.le_of_ble_eq_true rfl) (Nat.le_of_ble_eq_true rfl) ⟨(Nat.le_of_ble_eq_true rfl), (Nat.le_of_ble_eq_true rfl)⟩ (Nat.le_of_ble_eq_true rfl) (Nat.le_of_ble_eq_true rfl) ?_
    exact kRo_of (Eq.symm (if_pos (show (x.2.1 11) = (-1) from b5))) rfl
def o_X11_failedCommand (x : kK)  : kOut := if (x.2.1 12) = (-1) then (.inr "java/util/NoSuchElementException") else (.inl (some (.int (x.2.1 12))))
set_option maxRecDepth 100000 in
set_option maxHeartbeats 4000000 in
theorem m_X11_failedCommand {x : kK} {r : kH} : kMet kX11_failedCommand false 1 6 [.ref 0] (kTp (kHc x) r) 130 (kRo (o_X11_failedCommand x ) (kTp (kHc x) r) 130) := by
  refine kMet.in (by decide) rfl rfl _ rfl ?_
  refine k_aload_n (i := 0) dX11_failedCommand_0 (rfl : 0 + 1 = 1) rfl rfl ?_
  refine k_get 11 13 fg_X11_65 dX11_failedCommand_1 (rfl : 1 + 3 = 4) (Nat.le_of_ble_eq_true rfl) rfl rfl ?_
  refine k_iconst (v := (-1)) dX11_failedCommand_4 (rfl : 4 + 1 = 5) (by decide) ?_
  refine k_icmp_ne (tgt := 19) dX11_failedCommand_5 (rfl : 5 + 3 = 8) (by decide) (fun b5 => ?_) (fun b5 => ?_)
  · refine k_aload_n (i := 0) dX11_failedCommand_19 (rfl : 19 + 1 = 20) rfl rfl ?_
    refine k_get 11 13 fg_X11_65 dX11_failedCommand_20 (rfl : 20 + 3 = 23) (Nat.le_of_ble_eq_true rfl) rfl rfl ?_
    refine k_iret rfl rfl dX11_failedCommand_23 (Nat.le_of_ble_eq_true rfl) (Nat.le_of_ble_eq_true rfl) ?_
    exact kRo_of (Eq.symm (if_neg (show ¬ ((x.2.1 12) = (-1)) from b5))) rfl
  · refine k_throwNW thN_X11 tx_X11_380 rfl dX11_failedCommand_8 dX11_failedCommand_11 dX11_failedCommand_12 dX11_failedCommand_15 dX11_failedCommand_18 (Nat.le_of_ble_eq_true rfl) (Nat.le_of_ble_eq_true rfl) ⟨(Nat.le_of_ble_eq_true rfl), (Nat.le_of_ble_eq_true rfl)⟩ (Nat.le_of_ble_eq_true rfl) (Nat.le_of_ble_eq_true rfl) ?_
    exact kRo_of (Eq.symm (if_pos (show (x.2.1 12) = (-1) from b5))) rfl
def o_X11_lineAt (x : kK) (a1 : Int32) : kOut := if a1 < 0 then (.inr "java/lang/IndexOutOfBoundsException") else (if a1 < (x.2.1 7) then (.inl (some (.int ((x.2.2.1 7) (Int32.toNatClampNeg a1))))) else (.inr "java/lang/IndexOutOfBoundsException"))
set_option maxRecDepth 100000 in
set_option maxHeartbeats 4000000 in
theorem m_X11_lineAt {x : kK} {r : kH} {a1 : Int32} (hl : kLn x) (hc : kLc x) : kMet kX11_lineAt false 1 6 [.ref 0, .int a1] (kTp (kHc x) r) 130 (kRo (o_X11_lineAt x a1) (kTp (kHc x) r) 130) := by
  refine kMet.in (by decide) rfl rfl _ rfl ?_
  refine k_iload_n (i := 1) dX11_lineAt_0 (rfl : 0 + 1 = 1) rfl rfl ?_
  refine k_if_lt (tgt := 15) dX11_lineAt_1 (rfl : 1 + 3 = 4) (by decide) (fun b1 => ?_) (fun b1 => ?_)
  · refine k_throwW th_X11_72_76 tx_X11_397 rfl dX11_lineAt_15 dX11_lineAt_18 dX11_lineAt_19 dX11_lineAt_22 dX11_lineAt_25 (Nat.le_of_ble_eq_true rfl) (Nat.le_of_ble_eq_true rfl) ⟨(Nat.le_of_ble_eq_true rfl), (Nat.le_of_ble_eq_true rfl)⟩ (Nat.le_of_ble_eq_true rfl) (Nat.le_of_ble_eq_true rfl) ?_
    exact kRo_of (Eq.symm (if_pos (show a1 < 0 from b1))) rfl
  · refine k_iload_n (i := 1) dX11_lineAt_4 (rfl : 4 + 1 = 5) rfl rfl ?_
    refine k_aload_n (i := 0) dX11_lineAt_5 (rfl : 5 + 1 = 6) rfl rfl ?_
    refine k_get 11 7 fg_X11_53 dX11_lineAt_6 (rfl : 6 + 3 = 9) (Nat.le_of_ble_eq_true rfl) rfl rfl ?_
    refine k_get 8 1 fg_X11_384 dX11_lineAt_9 (rfl : 9 + 3 = 12) (Nat.le_of_ble_eq_true rfl) rfl rfl ?_
    refine k_icmp_lt (tgt := 26) dX11_lineAt_12 (rfl : 12 + 3 = 15) (by decide) (fun b12 => ?_) (fun b12 => ?_)
    · refine k_aload_n (i := 0) dX11_lineAt_26 (rfl : 26 + 1 = 27) rfl rfl ?_
      refine k_get 11 7 fg_X11_53 dX11_lineAt_27 (rfl : 27 + 3 = 30) (Nat.le_of_ble_eq_true rfl) rfl rfl ?_
      refine k_get 8 0 fg_X11_399 dX11_lineAt_30 (rfl : 30 + 3 = 33) (Nat.le_of_ble_eq_true rfl) rfl rfl ?_
      refine k_iload_n (i := 1) dX11_lineAt_33 (rfl : 33 + 1 = 34) rfl rfl ?_
      refine k_cald dX11_lineAt_34 (rfl : 34 + 1 = 35) (Nat.le_of_ble_eq_true rfl) rfl (li_in hl b1 b12) ?_
      refine k_iret rfl (lc_at hc (li_in hl b1 b12)) dX11_lineAt_35 (Nat.le_of_ble_eq_true rfl) (Nat.le_of_ble_eq_true rfl) ?_
      exact kRo_of (Eq.symm (Eq.trans (if_neg (show ¬ (a1 < 0) from b1)) (if_pos (show a1 < (x.2.1 7) from b12)))) rfl
    · refine k_throwW th_X11_72_76 tx_X11_397 rfl dX11_lineAt_15 dX11_lineAt_18 dX11_lineAt_19 dX11_lineAt_22 dX11_lineAt_25 (Nat.le_of_ble_eq_true rfl) (Nat.le_of_ble_eq_true rfl) ⟨(Nat.le_of_ble_eq_true rfl), (Nat.le_of_ble_eq_true rfl)⟩ (Nat.le_of_ble_eq_true rfl) (Nat.le_of_ble_eq_true rfl) ?_
      exact kRo_of (Eq.symm (Eq.trans (if_neg (show ¬ (a1 < 0) from b1)) (if_neg (show ¬ (a1 < (x.2.1 7)) from b12)))) rfl
def o_X11_undo (x : kK)  : kOut := if (x.2.1 1) = 0 then (.inr "java/lang/IllegalStateException") else (.inl (some (.int ((takS x).2.1 1))))
def g_X11_undo (x : kK)  : kK := if (x.2.1 1) = 0 then x else (takS x)
set_option maxRecDepth 100000 in
set_option maxHeartbeats 4000000 in
theorem m_X11_undo {x : kK} {r : kH} (hh : kHi x) : kMet kX11_undo false 1 6 [.ref 0] (kTp (kHc x) r) 130 (kRo (o_X11_undo x ) (kTp (kHc (g_X11_undo x )) r) 130) := by
  refine kMet.in (by decide) rfl rfl _ rfl ?_
  refine k_aload_n (i := 0) dX11_undo_0 (rfl : 0 + 1 = 1) rfl rfl ?_
  refine k_get 11 3 fg_X11_25 dX11_undo_1 (rfl : 1 + 3 = 4) (Nat.le_of_ble_eq_true rfl) rfl rfl ?_
  refine k_get 6 2 fg_X11_426 dX11_undo_4 (rfl : 4 + 3 = 7) (Nat.le_of_ble_eq_true rfl) rfl rfl ?_
  refine k_if_ne (tgt := 21) dX11_undo_7 (rfl : 7 + 3 = 10) (by decide) (fun b7 => ?_) (fun b7 => ?_)
  · refine k_aload_n (i := 0) dX11_undo_21 (rfl : 21 + 1 = 22) rfl rfl ?_
    refine k_get 11 3 fg_X11_25 dX11_undo_22 (rfl : 22 + 3 = 25) (Nat.le_of_ble_eq_true rfl) rfl rfl ?_
    refine k_aload_n (i := 0) dX11_undo_25 (rfl : 25 + 1 = 26) rfl rfl ?_
    refine k_get 11 0 fg_X11_12 dX11_undo_26 (rfl : 26 + 3 = 29) (Nat.le_of_ble_eq_true rfl) rfl rfl ?_
    refine k_callVv1 cv_X11_429 ⟨Nat.le_of_ble_eq_true rfl, Nat.le_of_ble_eq_true rfl⟩ (m_tak ⟨hh, b7⟩) dX11_undo_29 (rfl : 29 + 3 = 32) (Nat.le_of_ble_eq_true rfl) rfl rfl rfl ⟨Nat.le_of_ble_eq_true rfl, Nat.le_of_ble_eq_true rfl⟩ ?_
    refine k_aload_n (i := 0) dX11_undo_32 (rfl : 32 + 1 = 33) rfl rfl ?_
    refine k_get 11 3 fg_X11_25 dX11_undo_33 (rfl : 33 + 3 = 36) (Nat.le_of_ble_eq_true rfl) rfl rfl ?_
    refine k_get 6 2 fg_X11_426 dX11_undo_36 (rfl : 36 + 3 = 39) (Nat.le_of_ble_eq_true rfl) rfl rfl ?_
    refine k_iret rfl rfl dX11_undo_39 (Nat.le_of_ble_eq_true rfl) (Nat.le_of_ble_eq_true rfl) ?_
    exact kRo_of (Eq.symm (if_neg (show ¬ ((x.2.1 1) = 0) from b7))) (congrArg (fun z => kTp (kHc z) r) (Eq.symm (if_neg (show ¬ ((x.2.1 1) = 0) from b7))))
  · refine k_throwW th_X11_148_152 tx_X11_427 rfl dX11_undo_10 dX11_undo_13 dX11_undo_14 dX11_undo_17 dX11_undo_20 (Nat.le_of_ble_eq_true rfl) (Nat.le_of_ble_eq_true rfl) ⟨(Nat.le_of_ble_eq_true rfl), (Nat.le_of_ble_eq_true rfl)⟩ (Nat.le_of_ble_eq_true rfl) (Nat.le_of_ble_eq_true rfl) ?_
    exact kRo_of (Eq.symm (if_pos (show (x.2.1 1) = 0 from b7))) (congrArg (fun z => kTp (kHc z) r) (Eq.symm (if_pos (show (x.2.1 1) = 0 from b7))))
def f_X11_save (x : kK)  : Int32 := (((kkC x 1 (x.1 0)).1 0).2.1 3)
def g_X11_save (x : kK)  : kK := (kkS (kkC x 1 (x.1 0)) 8 1)
set_option maxRecDepth 100000 in
set_option maxHeartbeats 4000000 in
theorem m_X11_save {x : kK} {r : kH} : kMet kX11_save false 0 0 [.ref 0] (kTp (kHc x) r) 130 (kRt (some (.int (f_X11_save x ))) (kTp (kHc (g_X11_save x )) r) 130) := by
  refine kMet.in (by decide) rfl rfl _ rfl ?_
  refine k_aload_n (i := 0) dX11_save_0 (rfl : 0 + 1 = 1) rfl rfl ?_
  refine k_get 11 1 fg_X11_16 dX11_save_1 (rfl : 1 + 3 = 4) (Nat.le_of_ble_eq_true rfl) rfl rfl ?_
  refine k_aload_n (i := 0) dX11_save_4 (rfl : 4 + 1 = 5) rfl rfl ?_
  refine k_get 11 0 fg_X11_12 dX11_save_5 (rfl : 5 + 3 = 8) (Nat.le_of_ble_eq_true rfl) rfl rfl ?_
  refine k_callVv1 cv_X11_368 ⟨Nat.le_of_ble_eq_true rfl, Nat.le_of_ble_eq_true rfl⟩ (m_X9_copyFrom (d := 1) (s := 0) (by decide) (by decide) (by decide)) dX11_save_8 (rfl : 8 + 3 = 11) (Nat.le_of_ble_eq_true rfl) rfl rfl rfl ⟨Nat.le_of_ble_eq_true rfl, Nat.le_of_ble_eq_true rfl⟩ ?_
  refine k_aload_n (i := 0) dX11_save_11 (rfl : 11 + 1 = 12) rfl rfl ?_
  refine k_iconst (v := 1) dX11_save_12 (rfl : 12 + 1 = 13) (by decide) ?_
  refine k_put 11 9 fp_X11_432 dX11_save_13 (rfl : 13 + 3 = 16) (Nat.le_of_ble_eq_true rfl) rfl (Nat.le_of_ble_eq_true rfl) rfl rfl ?_
  refine kf_C8 (v := 1) rfl ?_
  refine k_aload_n (i := 0) dX11_save_16 (rfl : 16 + 1 = 17) rfl rfl ?_
  refine k_get 11 0 fg_X11_12 dX11_save_17 (rfl : 17 + 3 = 20) (Nat.le_of_ble_eq_true rfl) rfl rfl ?_
  refine k_get 9 0 fg_X11_100 dX11_save_20 (rfl : 20 + 3 = 23) (Nat.le_of_ble_eq_true rfl) rfl rfl ?_
  refine k_get 10 4 fg_X11_169 dX11_save_23 (rfl : 23 + 3 = 26) (Nat.le_of_ble_eq_true rfl) rfl rfl ?_
  refine k_iret rfl rfl dX11_save_26 (Nat.le_of_ble_eq_true rfl) (Nat.le_of_ble_eq_true rfl) ?_
  exact kRt_of rfl rfl
def o_X11_restore (x : kK)  : kOut := if (x.2.1 8) = 0 then (.inr "java/lang/IllegalStateException") else (.inl (some (.int (((kkC x 0 (x.1 1)).1 0).2.1 3))))
def g_X11_restore (x : kK)  : kK := if (x.2.1 8) = 0 then x else (kkS (kkC x 0 (x.1 1)) 1 0)
set_option maxRecDepth 100000 in
set_option maxHeartbeats 4000000 in
theorem m_X11_restore {x : kK} {r : kH} : kMet kX11_restore false 1 6 [.ref 0] (kTp (kHc x) r) 130 (kRo (o_X11_restore x ) (kTp (kHc (g_X11_restore x )) r) 130) := by
  refine kMet.in (by decide) rfl rfl _ rfl ?_
  refine k_aload_n (i := 0) dX11_restore_0 (rfl : 0 + 1 = 1) rfl rfl ?_
  refine k_get 11 9 fg_X11_432 dX11_restore_1 (rfl : 1 + 3 = 4) (Nat.le_of_ble_eq_true rfl) rfl rfl ?_
  refine k_if_ne (tgt := 18) dX11_restore_4 (rfl : 4 + 3 = 7) (by decide) (fun b4 => ?_) (fun b4 => ?_)
  · refine k_aload_n (i := 0) dX11_restore_18 (rfl : 18 + 1 = 19) rfl rfl ?_
    refine k_get 11 0 fg_X11_12 dX11_restore_19 (rfl : 19 + 3 = 22) (Nat.le_of_ble_eq_true rfl) rfl rfl ?_
    refine k_aload_n (i := 0) dX11_restore_22 (rfl : 22 + 1 = 23) rfl rfl ?_
    refine k_get 11 1 fg_X11_16 dX11_restore_23 (rfl : 23 + 3 = 26) (Nat.le_of_ble_eq_true rfl) rfl rfl ?_
    refine k_callVv1 cv_X11_368 ⟨Nat.le_of_ble_eq_true rfl, Nat.le_of_ble_eq_true rfl⟩ (m_X9_copyFrom (d := 0) (s := 1) (by decide) (by decide) (by decide)) dX11_restore_26 (rfl : 26 + 3 = 29) (Nat.le_of_ble_eq_true rfl) rfl rfl rfl ⟨Nat.le_of_ble_eq_true rfl, Nat.le_of_ble_eq_true rfl⟩ ?_
    refine k_aload_n (i := 0) dX11_restore_29 (rfl : 29 + 1 = 30) rfl rfl ?_
    refine k_get 11 3 fg_X11_25 dX11_restore_30 (rfl : 30 + 3 = 33) (Nat.le_of_ble_eq_true rfl) rfl rfl ?_
    refine k_iconst (v := 0) dX11_restore_33 (rfl : 33 + 1 = 34) (by decide) ?_
    refine k_put 6 2 fp_X11_426 dX11_restore_34 (rfl : 34 + 3 = 37) (Nat.le_of_ble_eq_true rfl) rfl (Nat.le_of_ble_eq_true rfl) rfl rfl ?_
    refine kf_C1 (v := 0) rfl ?_
    refine k_aload_n (i := 0) dX11_restore_37 (rfl : 37 + 1 = 38) rfl rfl ?_
    refine k_get 11 0 fg_X11_12 dX11_restore_38 (rfl : 38 + 3 = 41) (Nat.le_of_ble_eq_true rfl) rfl rfl ?_
    refine k_get 9 0 fg_X11_100 dX11_restore_41 (rfl : 41 + 3 = 44) (Nat.le_of_ble_eq_true rfl) rfl rfl ?_
    refine k_get 10 4 fg_X11_169 dX11_restore_44 (rfl : 44 + 3 = 47) (Nat.le_of_ble_eq_true rfl) rfl rfl ?_
    refine k_iret rfl rfl dX11_restore_47 (Nat.le_of_ble_eq_true rfl) (Nat.le_of_ble_eq_true rfl) ?_
    exact kRo_of (Eq.symm (if_neg (show ¬ ((x.2.1 8) = 0) from b4))) (congrArg (fun z => kTp (kHc z) r) (Eq.symm (if_neg (show ¬ ((x.2.1 8) = 0) from b4))))
  · refine k_throwW th_X11_148_152 tx_X11_436 rfl dX11_restore_7 dX11_restore_10 dX11_restore_11 dX11_restore_14 dX11_restore_17 (Nat.le_of_ble_eq_true rfl) (Nat.le_of_ble_eq_true rfl) ⟨(Nat.le_of_ble_eq_true rfl), (Nat.le_of_ble_eq_true rfl)⟩ (Nat.le_of_ble_eq_true rfl) (Nat.le_of_ble_eq_true rfl) ?_
    exact kRo_of (Eq.symm (if_pos (show (x.2.1 8) = 0 from b4))) (congrArg (fun z => kTp (kHc z) r) (Eq.symm (if_pos (show (x.2.1 8) = 0 from b4))))
