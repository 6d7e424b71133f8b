def ccL : Nat → kK → Nat → kK × Int32
  | 0, x, j => (x, (-1))
  | k + 1, x, j => if (f_cc x (kCd x (nI j)) (f_X2_operandAt x (nI j) 0) (f_X2_operandAt x (nI j) 1) (f_X2_operandAt x (nI j) 2)) = 0 then (ccL k (g_co (g_cc x (kCd x (nI j)) (f_X2_operandAt x (nI j) 0) (f_X2_operandAt x (nI j) 1) (f_X2_operandAt x (nI j) 2)) (kCd x (nI j)) (f_X2_operandAt x (nI j) 0) (f_X2_operandAt x (nI j) 1) (f_X2_operandAt x (nI j) 2)) (j + 1)) else ((g_cc x (kCd x (nI j)) (f_X2_operandAt x (nI j) 0) (f_X2_operandAt x (nI j) 1) (f_X2_operandAt x (nI j) 2)), (nI j))
set_option maxRecDepth 100000 in
set_option maxHeartbeats 4000000 in
theorem lccL {r : kH} {c : Nat}  (h11 : c ≤ 11) : ∀ (k : Nat) (x : kK) (j : Nat) (t2 : Value) (t3 : Value) (t4 : Value) (t5 : Value), j + k = c → x.2.1 6 = nI c → kCn x c → kIv (x.1 0) → kEv kX11_carryOutCommands (kRm kX11_carryOutCommands 0 0) (kFm false 0 0 ((kRt (some (.int (ccL k x j).2)) (kTp (kHc (ccL k x j).1) r) 130))) false 2 [.ref 0, .int (nI j), t2, t3, t4, t5] [] (kTp (kHc x) r) 130 0 0 := by
  intro k
  induction k with
  | zero =>
    intro x j t2 t3 t4 t5 hj en hc iv
    refine k_iload_n (i := 1) dX11_carryOutCommands_2 (rfl : 2 + 1 = 3) rfl rfl ?_
    refine k_aload_n (i := 0) dX11_carryOutCommands_3 (rfl : 3 + 1 = 4) rfl rfl ?_
    refine k_get 11 6 fg_X11_46 dX11_carryOutCommands_4 (rfl : 4 + 3 = 7) (Nat.le_of_ble_eq_true rfl) rfl rfl ?_
    refine k_get 2 3 fg_X11_377 dX11_carryOutCommands_7 (rfl : 7 + 3 = 10) (Nat.le_of_ble_eq_true rfl) rfl rfl ?_
    refine k_icmp_ge (tgt := 89) dX11_carryOutCommands_10 (rfl : 10 + 3 = 13) (by decide) (fun b10 => ?_) (fun b10 => by exact absurd (by rw [en]; exact nI_le (a := c) (b := j) (by omega) (by omega)) b10)
    refine k_iconst (v := (-1)) dX11_carryOutCommands_89 (rfl : 89 + 1 = 90) (by decide) ?_
    refine k_iret rfl rfl dX11_carryOutCommands_90 (Nat.le_of_ble_eq_true rfl) (Nat.le_of_ble_eq_true rfl) ?_
    have e9 : (ccL 0 x j) = (x, (-1)) := by rw [ccL]
    exact kRt_of (congrArg (fun z => some (Value.int z)) (Eq.symm (congrArg Prod.snd e9))) (congrArg (fun z => kTp (kHc z) r) (Eq.symm (congrArg Prod.fst e9)))
  | succ k ih =>
    intro x j t2 t3 t4 t5 hj en hc iv
    refine k_iload_n (i := 1) dX11_carryOutCommands_2 (rfl : 2 + 1 = 3) rfl rfl ?_
    refine k_aload_n (i := 0) dX11_carryOutCommands_3 (rfl : 3 + 1 = 4) rfl rfl ?_
    refine k_get 11 6 fg_X11_46 dX11_carryOutCommands_4 (rfl : 4 + 3 = 7) (Nat.le_of_ble_eq_true rfl) rfl rfl ?_
    refine k_get 2 3 fg_X11_377 dX11_carryOutCommands_7 (rfl : 7 + 3 = 10) (Nat.le_of_ble_eq_true rfl) rfl rfl ?_
    refine k_icmp_ge (tgt := 89) dX11_carryOutCommands_10 (rfl : 10 + 3 = 13) (by decide) (fun b10 => by exact absurd (by rw [en] at b10; exact b10) (nI_ge (a := j) (b := c) (by omega) (by omega))) (fun b10 => ?_)
    refine k_aload_n (i := 0) dX11_carryOutCommands_13 (rfl : 13 + 1 = 14) rfl rfl ?_
    refine k_get 11 6 fg_X11_46 dX11_carryOutCommands_14 (rfl : 14 + 3 = 17) (Nat.le_of_ble_eq_true rfl) rfl rfl ?_
    refine k_iload_n (i := 1) dX11_carryOutCommands_17 (rfl : 17 + 1 = 18) rfl rfl ?_
    refine k_callVd1 cv_X11_516 ⟨Nat.le_of_ble_eq_true rfl, Nat.le_of_ble_eq_true rfl⟩ (m_commandAt en hc (by omega) h11) dX11_carryOutCommands_18 (rfl : 18 + 3 = 21) (Nat.le_of_ble_eq_true rfl) rfl rfl rfl ⟨Nat.le_of_ble_eq_true rfl, Nat.le_of_ble_eq_true rfl⟩ ?_
    refine k_astore_n (i := 2) dX11_carryOutCommands_21 (rfl : 21 + 1 = 22) rfl (Nat.le_of_ble_eq_true rfl) ?_
    refine k_ls (ls2 := [.ref 0, .int (nI j), .ref (1010 + (kCd x (nI j))), t3, t4, t5]) rfl ?_
    refine k_aload_n (i := 0) dX11_carryOutCommands_22 (rfl : 22 + 1 = 23) rfl rfl ?_
    refine k_get 11 6 fg_X11_46 dX11_carryOutCommands_23 (rfl : 23 + 3 = 26) (Nat.le_of_ble_eq_true rfl) rfl rfl ?_
    refine k_iload_n (i := 1) dX11_carryOutCommands_26 (rfl : 26 + 1 = 27) rfl rfl ?_
    refine k_iconst (v := 0) dX11_carryOutCommands_27 (rfl : 27 + 1 = 28) (by decide) ?_
    refine k_callVd2 cv_X11_520 ⟨Nat.le_of_ble_eq_true rfl, Nat.le_of_ble_eq_true rfl⟩ (m_X2_operandAt ⟨c, h11, en⟩) dX11_carryOutCommands_28 (rfl : 28 + 3 = 31) (Nat.le_of_ble_eq_true rfl) rfl rfl rfl ⟨Nat.le_of_ble_eq_true rfl, Nat.le_of_ble_eq_true rfl⟩ ?_
    refine k_istore_n (i := 3) dX11_carryOutCommands_31 (rfl : 31 + 1 = 32) rfl (Nat.le_of_ble_eq_true rfl) ?_
    refine k_ls (ls2 := [.ref 0, .int (nI j), .ref (1010 + (kCd x (nI j))), .int (f_X2_operandAt x (nI j) 0), t4, t5]) rfl ?_
    refine k_aload_n (i := 0) dX11_carryOutCommands_32 (rfl : 32 + 1 = 33) rfl rfl ?_
    refine k_get 11 6 fg_X11_46 dX11_carryOutCommands_33 (rfl : 33 + 3 = 36) (Nat.le_of_ble_eq_true rfl) rfl rfl ?_
    refine k_iload_n (i := 1) dX11_carryOutCommands_36 (rfl : 36 + 1 = 37) rfl rfl ?_
    refine k_iconst (v := 1) dX11_carryOutCommands_37 (rfl : 37 + 1 = 38) (by decide) ?_
    refine k_callVd2 cv_X11_520 ⟨Nat.le_of_ble_eq_true rfl, Nat.le_of_ble_eq_true rfl⟩ (m_X2_operandAt ⟨c, h11, en⟩) dX11_carryOutCommands_38 (rfl : 38 + 3 = 41) (Nat.le_of_ble_eq_true rfl) rfl rfl rfl ⟨Nat.le_of_ble_eq_true rfl, Nat.le_of_ble_eq_true rfl⟩ ?_
    refine k_istore (i := 4) dX11_carryOutCommands_41 (rfl : 41 + 2 = 43) (Nat.le_of_ble_eq_true rfl) ?_
    refine k_ls (ls2 := [.ref 0, .int (nI j), .ref (1010 + (kCd x (nI j))), .int (f_X2_operandAt x (nI j) 0), .int (f_X2_operandAt x (nI j) 1), t5]) rfl ?_
    refine k_aload_n (i := 0) dX11_carryOutCommands_43 (rfl : 43 + 1 = 44) rfl rfl ?_
    refine k_get 11 6 fg_X11_46 dX11_carryOutCommands_44 (rfl : 44 + 3 = 47) (Nat.le_of_ble_eq_true rfl) rfl rfl ?_
    refine k_iload_n (i := 1) dX11_carryOutCommands_47 (rfl : 47 + 1 = 48) rfl rfl ?_
    refine k_iconst (v := 2) dX11_carryOutCommands_48 (rfl : 48 + 1 = 49) (by decide) ?_
    refine k_callVd2 cv_X11_520 ⟨Nat.le_of_ble_eq_true rfl, Nat.le_of_ble_eq_true rfl⟩ (m_X2_operandAt ⟨c, h11, en⟩) dX11_carryOutCommands_49 (rfl : 49 + 3 = 52) (Nat.le_of_ble_eq_true rfl) rfl rfl rfl ⟨Nat.le_of_ble_eq_true rfl, Nat.le_of_ble_eq_true rfl⟩ ?_
    refine k_istore (i := 5) dX11_carryOutCommands_52 (rfl : 52 + 2 = 54) (Nat.le_of_ble_eq_true rfl) ?_
    refine k_ls (ls2 := [.ref 0, .int (nI j), .ref (1010 + (kCd x (nI j))), .int (f_X2_operandAt x (nI j) 0), .int (f_X2_operandAt x (nI j) 1), .int (f_X2_operandAt x (nI j) 2)]) rfl ?_
    refine k_aload_n (i := 2) dX11_carryOutCommands_54 (rfl : 54 + 1 = 55) rfl rfl ?_
    refine k_ifnull dX11_carryOutCommands_55 (rfl : 55 + 3 = 58) ?_
    refine k_aload_n (i := 0) dX11_carryOutCommands_58 (rfl : 58 + 1 = 59) rfl rfl ?_
    refine k_aload_n (i := 2) dX11_carryOutCommands_59 (rfl : 59 + 1 = 60) rfl rfl ?_
    refine k_iload_n (i := 3) dX11_carryOutCommands_60 (rfl : 60 + 1 = 61) rfl rfl ?_
    refine k_iload (i := 4) dX11_carryOutCommands_61 (rfl : 61 + 2 = 63) rfl ?_
    refine k_iload (i := 5) dX11_carryOutCommands_63 (rfl : 63 + 2 = 65) rfl ?_
    refine k_callVd4 cv_X11_523 ⟨Nat.le_of_ble_eq_true rfl, Nat.le_of_ble_eq_true rfl⟩ (m_cc (kCd_of hc (show j < c by omega) (by omega)).1 iv) dX11_carryOutCommands_65 (rfl : 65 + 3 = 68) (Nat.le_of_ble_eq_true rfl) rfl rfl rfl ⟨Nat.le_of_ble_eq_true rfl, Nat.le_of_ble_eq_true rfl⟩ ?_
    generalize hg1 : (g_cc x (kCd x (nI j)) (f_X2_operandAt x (nI j) 0) (f_X2_operandAt x (nI j) 1) (f_X2_operandAt x (nI j) 2)) = y1
    refine k_if_eq (tgt := 73) dX11_carryOutCommands_68 (rfl : 68 + 3 = 71) (by decide) (fun b68 => ?_) (fun b68 => ?_)
    · refine k_aload_n (i := 0) dX11_carryOutCommands_73 (rfl : 73 + 1 = 74) rfl rfl ?_
      refine k_aload_n (i := 2) dX11_carryOutCommands_74 (rfl : 74 + 1 = 75) rfl rfl ?_
      refine k_iload_n (i := 3) dX11_carryOutCommands_75 (rfl : 75 + 1 = 76) rfl rfl ?_
      refine k_iload (i := 4) dX11_carryOutCommands_76 (rfl : 76 + 2 = 78) rfl ?_
      refine k_iload (i := 5) dX11_carryOutCommands_78 (rfl : 78 + 2 = 80) rfl ?_
      refine k_callVv4 cv_X11_527 ⟨Nat.le_of_ble_eq_true rfl, Nat.le_of_ble_eq_true rfl⟩ (m_co (kCd_of hc (show j < c by omega) (by omega)).1 (by rw [← hg1, cc_ok (kCd_of hc (show j < c by omega) (by omega)).1 iv b68]; exact iv) (by rw [← hg1, cc_ok (kCd_of hc (show j < c by omega) (by omega)).1 iv b68]; exact b68)) dX11_carryOutCommands_80 (rfl : 80 + 3 = 83) (Nat.le_of_ble_eq_true rfl) rfl rfl rfl ⟨Nat.le_of_ble_eq_true rfl, Nat.le_of_ble_eq_true rfl⟩ ?_
      generalize hg2 : (g_co y1 (kCd x (nI j)) (f_X2_operandAt x (nI j) 0) (f_X2_operandAt x (nI j) 1) (f_X2_operandAt x (nI j) 2)) = y2
      refine k_iinc (i := 1) (v := (nI (j + 1))) dX11_carryOutCommands_83 (rfl : 83 + 3 = 86) rfl (Nat.le_of_ble_eq_true rfl) (nI_1 _) ?_
      refine k_ls (ls2 := [.ref 0, .int (nI (j + 1)), .ref (1010 + (kCd x (nI j))), .int (f_X2_operandAt x (nI j) 0), .int (f_X2_operandAt x (nI j) 1), .int (f_X2_operandAt x (nI j) 2)]) rfl ?_
      refine k_goto (tgt := 2) dX11_carryOutCommands_86 (by decide) ?_
      subst hg2
      subst hg1
      rw [ccL, if_pos (show (f_cc x (kCd x (nI j)) (f_X2_operandAt x (nI j) 0) (f_X2_operandAt x (nI j) 1) (f_X2_operandAt x (nI j) 2)) = 0 from b68)]
      exact ih (g_co (g_cc x (kCd x (nI j)) (f_X2_operandAt x (nI j) 0) (f_X2_operandAt x (nI j) 1) (f_X2_operandAt x (nI j) 2)) (kCd x (nI j)) (f_X2_operandAt x (nI j) 0) (f_X2_operandAt x (nI j) 1) (f_X2_operandAt x (nI j) 2)) (j + 1) _ _ _ _ (by omega) (by rw [cc_ok (kCd_of hc (show j < c by omega) (by omega)).1 iv b68, (q_co (kCd_of hc (show j < c by omega) (by omega)).1).2.1 6 (by decide) (by decide)]; exact en) (by rw [cc_ok (kCd_of hc (show j < c by omega) (by omega)).1 iv b68]; intro i hi; rw [(q_co (kCd_of hc (show j < c by omega) (by omega)).1).2.2.2]; exact hc i hi) (by rw [cc_ok (kCd_of hc (show j < c by omega) (by omega)).1 iv b68]; exact iv_co (kCd_of hc (show j < c by omega) (by omega)).1 iv b68)
    · refine k_iload_n (i := 1) dX11_carryOutCommands_71 (rfl : 71 + 1 = 72) rfl rfl ?_
      refine k_iret rfl rfl dX11_carryOutCommands_72 (Nat.le_of_ble_eq_true rfl) (Nat.le_of_ble_eq_true rfl) ?_
      subst hg1
      have e9 : (ccL (k + 1) x j) = ((g_cc x (kCd x (nI j)) (f_X2_operandAt x (nI j) 0) (f_X2_operandAt x (nI j) 1) (f_X2_operandAt x (nI j) 2)), (nI j)) := by rw [ccL, if_neg (show ¬ ((f_cc x (kCd x (nI j)) (f_X2_operandAt x (nI j) 0) (f_X2_operandAt x (nI j) 1) (f_X2_operandAt x (nI j) 2)) = 0) from b68)]
      exact kRt_of (congrArg (fun z => some (Value.int z)) (Eq.symm (congrArg Prod.snd e9))) (congrArg (fun z => kTp (kHc z) r) (Eq.symm (congrArg Prod.fst e9)))
set_option maxRecDepth 100000 in
set_option maxHeartbeats 4000000 in
theorem m_X11_carryOutCommands {x : kK} {r : kH} {c : Nat} (h11 : c ≤ 11) (en : x.2.1 6 = nI c) (hc : kCn x c) (iv : kIv (x.1 0)) : kMet kX11_carryOutCommands false 0 0 [.ref 0] (kTp (kHc x) r) 130 (kRt (some (.int (ccL (Int32.toNatClampNeg (x.2.1 6)) x 0).2)) (kTp (kHc (ccL (Int32.toNatClampNeg (x.2.1 6)) x 0).1) r) 130) := by
  refine kMet.in (by decide) rfl rfl _ rfl ?_
  refine k_iconst (v := 0) dX11_carryOutCommands_0 (rfl : 0 + 1 = 1) (by decide) ?_
  refine k_istore_n (i := 1) dX11_carryOutCommands_1 (rfl : 1 + 1 = 2) rfl (Nat.le_of_ble_eq_true rfl) ?_
  have e9 : Int32.toNatClampNeg (x.2.1 6) = c := by rw [en, nI_clamp (by omega)]
  rw [e9]
  exact lccL h11 c x 0 _ _ _ _ (by omega) en hc iv
theorem p_cc {x : kK} {k : Nat} {a b c : Int32} (hk : k < 10) : kKp x (g_cc x k a b c) :=
  match k, hk with
  | 0, _ => kp_checkTree
  | 1, _ => kp_checkTree
  | 2, _ => kp_checkBench
  | 3, _ => kp_checkNewParty
  | 4, _ => kp_checkMove
  | 5, _ => kKp_r
  | 6, _ => kp_checkSummons
  | 7, _ => kKp_r
  | 8, _ => kp_checkHearing
  | 9, _ => kKp_r
/-- what running commands may change -/
def kKr (x y : kK) : Prop := (∀ k, k ≠ 0 → y.1 k = x.1 k) ∧ (∀ k, k ≠ 2 → k ≠ 3 → k ≠ 9 → k ≠ 10 → y.2.1 k = x.2.1 k) ∧ (∀ k, k ≠ 0 → y.2.2.1 k = x.2.2.1 k) ∧ y.2.2.2 = x.2.2.2
theorem kKr_r {x : kK} : kKr x x := ⟨fun _ _ => rfl, fun _ _ _ _ _ => rfl, fun _ _ => rfl, rfl⟩
theorem kKr_t {x y z : kK} (h1 : kKr x y) (h2 : kKr y z) : kKr x z := ⟨fun k a => (h2.1 k a).trans (h1.1 k a), fun k a b c d => (h2.2.1 k a b c d).trans (h1.2.1 k a b c d), fun k a => (h2.2.2.1 k a).trans (h1.2.2.1 k a), h2.2.2.2.trans h1.2.2.2⟩
theorem kKr_q {x y : kK} (h : kKq x y) : kKr x y := ⟨h.1, fun k a b _ _ => h.2.1 k a b, h.2.2.1, h.2.2.2⟩
theorem kKr_p {x y : kK} (h : kKp x y) : kKr x y := ⟨fun k _ => by rw [h.1], fun k _ _ a b => h.2.1 k a b, fun k _ => by rw [h.2.2], by rw [h.2.2]⟩
set_option maxRecDepth 100000 in
theorem ccL_keep {c : Nat} (h11 : c ≤ 11) {k : Nat} : ∀ {x : kK} {j : Nat}, j + k = c → x.2.1 6 = nI c → kCn x c → kIv (x.1 0) → kKr x (ccL k x j).1 ∧ kIv ((ccL k x j).1.1 0) := by
  induction k with
  | zero => intro x j _ _ _ iv; exact ⟨kKr_r, iv⟩
  | succ k ih =>
    intro x j hj en hc iv
    have hk := (kCd_of hc (show j < c by omega) (by omega)).1
    rw [ccL]
    split
    · rename_i h0
      rw [cc_ok hk iv h0]
      have h1 := q_co (x := x) (a := f_X2_operandAt x (nI j) 0) (b := f_X2_operandAt x (nI j) 1) (c := f_X2_operandAt x (nI j) 2) hk
      have h2 := ih (x := g_co x (kCd x (nI j)) (f_X2_operandAt x (nI j) 0) (f_X2_operandAt x (nI j) 1) (f_X2_operandAt x (nI j) 2)) (j := j + 1) (by omega) ((h1.2.1 6 (by decide) (by decide)).trans en) (fun i hi => by rw [h1.2.2.2]; exact hc i hi) (iv_co hk iv h0)
      exact ⟨kKr_t (kKr_q h1) h2.1, h2.2⟩
    · have hp := p_cc (x := x) (a := f_X2_operandAt x (nI j) 0) (b := f_X2_operandAt x (nI j) 1) (c := f_X2_operandAt x (nI j) 2) hk
      exact ⟨kKr_p hp, iv_kp hp iv⟩
theorem kkC_0 {x : kK} {c : kCo} : (kkC x 2 c).1 0 = x.1 0 := rfl
theorem hi_kr {x y : kK} (h : kKr x y) (hh : kHi x) : kHi y := by
  obtain ⟨e, c, he, hc, h0, h1⟩ := hh
  exact ⟨e, c, he, hc, (h.2.1 0 (by decide) (by decide) (by decide) (by decide)).trans h0, (h.2.1 1 (by decide) (by decide) (by decide) (by decide)).trans h1⟩
def o_X11_run (x : kK)  : kOut := if (f_X2_readCommands x ) = 0 then (.inr "java/lang/IllegalArgumentException") else (if (ccL (Int32.toNatClampNeg ((kkC (kkS (g_X2_readCommands x ) 4 0) 2 ((kkS (g_X2_readCommands x ) 4 0).1 0)).2.1 6)) (kkC (kkS (g_X2_readCommands x ) 4 0) 2 ((kkS (g_X2_readCommands x ) 4 0).1 0)) 0).2 = (-1) then (.inl (some (.int ((remS (ccL (Int32.toNatClampNeg ((kkC (kkS (g_X2_readCommands x ) 4 0) 2 ((kkS (g_X2_readCommands x ) 4 0).1 0)).2.1 6)) (kkC (kkS (g_X2_readCommands x ) 4 0) 2 ((kkS (g_X2_readCommands x ) 4 0).1 0)) 0).1 2).2.1 6)))) else (.inr "java/lang/IllegalStateException"))
def g_X11_run (x : kK)  : kK := if (f_X2_readCommands x ) = 0 then (kkS (kkS (g_X2_readCommands x ) 4 0) 11 ((g_X2_readCommands x ).2.1 5)) else (if (ccL (Int32.toNatClampNeg ((kkC (kkS (g_X2_readCommands x ) 4 0) 2 ((kkS (g_X2_readCommands x ) 4 0).1 0)).2.1 6)) (kkC (kkS (g_X2_readCommands x ) 4 0) 2 ((kkS (g_X2_readCommands x ) 4 0).1 0)) 0).2 = (-1) then (remS (ccL (Int32.toNatClampNeg ((kkC (kkS (g_X2_readCommands x ) 4 0) 2 ((kkS (g_X2_readCommands x ) 4 0).1 0)).2.1 6)) (kkC (kkS (g_X2_readCommands x ) 4 0) 2 ((kkS (g_X2_readCommands x ) 4 0).1 0)) 0).1 2) else (kkS (kkC (ccL (Int32.toNatClampNeg ((kkC (kkS (g_X2_readCommands x ) 4 0) 2 ((kkS (g_X2_readCommands x ) 4 0).1 0)).2.1 6)) (kkC (kkS (g_X2_readCommands x ) 4 0) 2 ((kkS (g_X2_readCommands x ) 4 0).1 0)) 0).1 0 ((ccL (Int32.toNatClampNeg ((kkC (kkS (g_X2_readCommands x ) 4 0) 2 ((kkS (g_X2_readCommands x ) 4 0).1 0)).2.1 6)) (kkC (kkS (g_X2_readCommands x ) 4 0) 2 ((kkS (g_X2_readCommands x ) 4 0).1 0)) 0).1.1 2)) 12 ((ccL (Int32.toNatClampNeg ((kkC (kkS (g_X2_readCommands x ) 4 0) 2 ((kkS (g_X2_readCommands x ) 4 0).1 0)).2.1 6)) (kkC (kkS (g_X2_readCommands x ) 4 0) 2 ((kkS (g_X2_readCommands x ) 4 0).1 0)) 0).2)))
set_option maxRecDepth 100000 in
set_option maxHeartbeats 4000000 in
theorem m_X11_run {x : kK} {r : kH} (hl : kTl x) (iv : kIv (x.1 0)) (hh : kHi x) : kMet kX11_run false 1 6 [.ref 0] (kTp (kHc x) r) 130 (kRo (o_X11_run x ) (kTp (kHc (g_X11_run x )) r) 130) := by
  refine kMet.in (by decide) rfl rfl _ rfl ?_
  refine k_aload_n (i := 0) dX11_run_0 (rfl : 0 + 1 = 1) rfl rfl ?_
  refine k_get 11 6 fg_X11_46 dX11_run_1 (rfl : 1 + 3 = 4) (Nat.le_of_ble_eq_true rfl) rfl rfl ?_
  refine k_callVd0 cv_X11_359 ⟨Nat.le_of_ble_eq_true rfl, Nat.le_of_ble_eq_true rfl⟩ (m_X2_readCommands hl) dX11_run_4 (rfl : 4 + 3 = 7) (Nat.le_of_ble_eq_true rfl) rfl rfl rfl ⟨Nat.le_of_ble_eq_true rfl, Nat.le_of_ble_eq_true rfl⟩ ?_
  generalize hg1 : (g_X2_readCommands x ) = y1
  have rc : kRc x y1 (f_X2_readCommands x) := by rw [← hg1]; exact rcs_ok hl
  refine k_istore_n (i := 1) dX11_run_7 (rfl : 7 + 1 = 8) rfl (Nat.le_of_ble_eq_true rfl) ?_
  refine k_ls (ls2 := [.ref 0, .int (f_X2_readCommands x ), .retAddr 0]) rfl ?_
  refine k_aload_n (i := 0) dX11_run_8 (rfl : 8 + 1 = 9) rfl rfl ?_
  refine k_get 11 6 fg_X11_46 dX11_run_9 (rfl : 9 + 3 = 12) (Nat.le_of_ble_eq_true rfl) rfl rfl ?_
  refine k_iconst (v := 0) dX11_run_12 (rfl : 12 + 1 = 13) (by decide) ?_
  refine k_put 2 1 fp_X11_352 dX11_run_13 (rfl : 13 + 3 = 16) (Nat.le_of_ble_eq_true rfl) rfl (Nat.le_of_ble_eq_true rfl) rfl rfl ?_
  refine kf_C4 (v := 0) rfl ?_
  refine k_iload_n (i := 1) dX11_run_16 (rfl : 16 + 1 = 17) rfl rfl ?_
  refine k_if_ne (tgt := 42) dX11_run_17 (rfl : 17 + 3 = 20) (by decide) (fun b17 => ?_) (fun b17 => ?_)
  · refine k_aload_n (i := 0) dX11_run_42 (rfl : 42 + 1 = 43) rfl rfl ?_
    refine k_get 11 2 fg_X11_19 dX11_run_43 (rfl : 43 + 3 = 46) (Nat.le_of_ble_eq_true rfl) rfl rfl ?_
    refine k_aload_n (i := 0) dX11_run_46 (rfl : 46 + 1 = 47) rfl rfl ?_
    refine k_get 11 0 fg_X11_12 dX11_run_47 (rfl : 47 + 3 = 50) (Nat.le_of_ble_eq_true rfl) rfl rfl ?_
    refine k_callVv1 cv_X11_368 ⟨Nat.le_of_ble_eq_true rfl, Nat.le_of_ble_eq_true rfl⟩ (m_X9_copyFrom (d := 2) (s := 0) (by decide) (by decide) (by decide)) dX11_run_50 (rfl : 50 + 3 = 53) (Nat.le_of_ble_eq_true rfl) rfl rfl rfl ⟨Nat.le_of_ble_eq_true rfl, Nat.le_of_ble_eq_true rfl⟩ ?_
    generalize hg2 : (kkC (kkS y1 4 0) 2 ((kkS y1 4 0).1 0)) = y2
    obtain ⟨c, h11, en, hc⟩ := rc.2.2.2.2 b17
    have en2 : y2.2.1 6 = nI c := by rw [← hg2]; exact en
    have hc2 : kCn y2 c := by rw [← hg2]; exact hc
    have iv2 : kIv (y2.1 0) := by rw [← hg2, kkC_0]; show kIv (y1.1 0); rw [rc.2.1]; exact iv
    have hi2 : kHi y2 := by rw [← hg2]; obtain ⟨e9, c9, he, hc9, h0, h1⟩ := hh; exact ⟨e9, c9, he, hc9, (rc.2.2.1 0 (by decide) (by decide)).trans h0, (rc.2.2.1 1 (by decide) (by decide)).trans h1⟩
    refine k_aload_n (i := 0) dX11_run_53 (rfl : 53 + 1 = 54) rfl rfl ?_
    refine k_callVd0 cv_X11_371 ⟨Nat.le_of_ble_eq_true rfl, Nat.le_of_ble_eq_true rfl⟩ (m_X11_carryOutCommands h11 en2 hc2 iv2) dX11_run_54 (rfl : 54 + 3 = 57) (Nat.le_of_ble_eq_true rfl) rfl rfl rfl ⟨Nat.le_of_ble_eq_true rfl, Nat.le_of_ble_eq_true rfl⟩ ?_
    generalize hg3 : (ccL (Int32.toNatClampNeg (y2.2.1 6)) y2 0).1 = y3
    have hi3 : kHi y3 := by rw [← hg3, show Int32.toNatClampNeg (y2.2.1 6) = c by rw [en2, nI_clamp (by omega)]]; exact hi_kr (ccL_keep h11 (by omega) en2 hc2 iv2).1 hi2
    refine k_istore_n (i := 2) dX11_run_57 (rfl : 57 + 1 = 58) rfl (Nat.le_of_ble_eq_true rfl) ?_
    refine k_ls (ls2 := [.ref 0, .int (f_X2_readCommands x ), .int (ccL (Int32.toNatClampNeg (y2.2.1 6)) y2 0).2]) rfl ?_
    refine k_iload_n (i := 2) dX11_run_58 (rfl : 58 + 1 = 59) rfl rfl ?_
    refine k_iconst (v := (-1)) dX11_run_59 (rfl : 59 + 1 = 60) (by decide) ?_
    refine k_icmp_eq (tgt := 90) dX11_run_60 (rfl : 60 + 3 = 63) (by decide) (fun b60 => ?_) (fun b60 => ?_)
    · refine k_aload_n (i := 0) dX11_run_90 (rfl : 90 + 1 = 91) rfl rfl ?_
      refine k_get 11 3 fg_X11_25 dX11_run_91 (rfl : 91 + 3 = 94) (Nat.le_of_ble_eq_true rfl) rfl rfl ?_
      refine k_aload_n (i := 0) dX11_run_94 (rfl : 94 + 1 = 95) rfl rfl ?_
      refine k_get 11 2 fg_X11_19 dX11_run_95 (rfl : 95 + 3 = 98) (Nat.le_of_ble_eq_true rfl) rfl rfl ?_
      refine k_callVv1 cv_X11_84 ⟨Nat.le_of_ble_eq_true rfl, Nat.le_of_ble_eq_true rfl⟩ (m_rem2 hi3) dX11_run_98 (rfl : 98 + 3 = 101) (Nat.le_of_ble_eq_true rfl) rfl rfl rfl ⟨Nat.le_of_ble_eq_true rfl, Nat.le_of_ble_eq_true rfl⟩ ?_
      generalize hg4 : (remS y3 2) = y4
      refine k_aload_n (i := 0) dX11_run_101 (rfl : 101 + 1 = 102) rfl rfl ?_
      refine k_get 11 6 fg_X11_46 dX11_run_102 (rfl : 102 + 3 = 105) (Nat.le_of_ble_eq_true rfl) rfl rfl ?_
      refine k_get 2 3 fg_X11_377 dX11_run_105 (rfl : 105 + 3 = 108) (Nat.le_of_ble_eq_true rfl) rfl rfl ?_
      refine k_iret rfl rfl dX11_run_108 (Nat.le_of_ble_eq_true rfl) (Nat.le_of_ble_eq_true rfl) ?_
      subst hg4
      subst hg3
      subst hg2
      subst hg1
      exact kRo_of (Eq.symm (Eq.trans (if_neg (show ¬ ((f_X2_readCommands x ) = 0) from b17)) (if_pos (show (ccL (Int32.toNatClampNeg ((kkC (kkS (g_X2_readCommands x ) 4 0) 2 ((kkS (g_X2_readCommands x ) 4 0).1 0)).2.1 6)) (kkC (kkS (g_X2_readCommands x ) 4 0) 2 ((kkS (g_X2_readCommands x ) 4 0).1 0)) 0).2 = (-1) from b60)))) (congrArg (fun z => kTp (kHc z) r) (Eq.symm (Eq.trans (if_neg (show ¬ ((f_X2_readCommands x ) = 0) from b17)) (if_pos (show (ccL (Int32.toNatClampNeg ((kkC (kkS (g_X2_readCommands x ) 4 0) 2 ((kkS (g_X2_readCommands x ) 4 0).1 0)).2.1 6)) (kkC (kkS (g_X2_readCommands x ) 4 0) 2 ((kkS (g_X2_readCommands x ) 4 0).1 0)) 0).2 = (-1) from b60)))))
    · refine k_aload_n (i := 0) dX11_run_63 (rfl : 63 + 1 = 64) rfl rfl ?_
      refine k_get 11 0 fg_X11_12 dX11_run_64 (rfl : 64 + 3 = 67) (Nat.le_of_ble_eq_true rfl) rfl rfl ?_
      refine k_aload_n (i := 0) dX11_run_67 (rfl : 67 + 1 = 68) rfl rfl ?_
      refine k_get 11 2 fg_X11_19 dX11_run_68 (rfl : 68 + 3 = 71) (Nat.le_of_ble_eq_true rfl) rfl rfl ?_
      refine k_callVv1 cv_X11_368 ⟨Nat.le_of_ble_eq_true rfl, Nat.le_of_ble_eq_true rfl⟩ (m_X9_copyFrom (d := 0) (s := 2) (by decide) (by decide) (by decide)) dX11_run_71 (rfl : 71 + 3 = 74) (Nat.le_of_ble_eq_true rfl) rfl rfl rfl ⟨Nat.le_of_ble_eq_true rfl, Nat.le_of_ble_eq_true rfl⟩ ?_
      generalize hg5 : (kkC y3 0 (y3.1 2)) = y5
      refine k_aload_n (i := 0) dX11_run_74 (rfl : 74 + 1 = 75) rfl rfl ?_
      refine k_iload_n (i := 2) dX11_run_75 (rfl : 75 + 1 = 76) rfl rfl ?_
      refine k_put 11 13 fp_X11_65 dX11_run_76 (rfl : 76 + 3 = 79) (Nat.le_of_ble_eq_true rfl) rfl (Nat.le_of_ble_eq_true rfl) rfl rfl ?_
      refine kf_C12 (v := (ccL (Int32.toNatClampNeg (y2.2.1 6)) y2 0).2) rfl ?_
      refine k_throwW th_X11_148_152 tx_X11_375 rfl dX11_run_79 dX11_run_82 dX11_run_83 dX11_run_86 dX11_run_89 (Nat.le_of_ble_eq_true rfl) (Nat.le_of_ble_eq_true rfl) ⟨(Nat.le_of_ble_eq_true rfl), (Nat.le_of_ble_eq_true rfl)⟩ (Nat.le_of_ble_eq_true rfl) (Nat.le_of_ble_eq_true rfl) ?_
      subst hg5
      subst hg3
      subst hg2
      subst hg1
      exact kRo_of (Eq.symm (Eq.trans (if_neg (show ¬ ((f_X2_readCommands x ) = 0) from b17)) (if_neg (show ¬ ((ccL (Int32.toNatClampNeg ((kkC (kkS (g_X2_readCommands x ) 4 0) 2 ((kkS (g_X2_readCommands x ) 4 0).1 0)).2.1 6)) (kkC (kkS (g_X2_readCommands x ) 4 0) 2 ((kkS (g_X2_readCommands x ) 4 0).1 0)) 0).2 = (-1)) from b60)))) (congrArg (fun z => kTp (kHc z) r) (Eq.symm (Eq.trans (if_neg (show ¬ ((f_X2_readCommands x ) = 0) from b17)) (if_neg (show ¬ ((ccL (Int32.toNatClampNeg ((kkC (kkS (g_X2_readCommands x ) 4 0) 2 ((kkS (g_X2_readCommands x ) 4 0).1 0)).2.1 6)) (kkC (kkS (g_X2_readCommands x ) 4 0) 2 ((kkS (g_X2_readCommands x ) 4 0).1 0)) 0).2 = (-1)) from b60)))))
  · refine k_aload_n (i := 0) dX11_run_20 (rfl : 20 + 1 = 21) rfl rfl ?_
    refine k_aload_n (i := 0) dX11_run_21 (rfl : 21 + 1 = 22) rfl rfl ?_
    refine k_get 11 6 fg_X11_46 dX11_run_22 (rfl : 22 + 3 = 25) (Nat.le_of_ble_eq_true rfl) rfl rfl ?_
    refine k_get 2 2 fg_X11_363 dX11_run_25 (rfl : 25 + 3 = 28) (Nat.le_of_ble_eq_true rfl) rfl rfl ?_
    refine k_put 11 12 fp_X11_61 dX11_run_28 (rfl : 28 + 3 = 31) (Nat.le_of_ble_eq_true rfl) rfl (Nat.le_of_ble_eq_true rfl) rfl rfl ?_
    refine kf_C11 (v := (y1.2.1 5)) rfl ?_
    refine k_throwW th_X11_134_138 tx_X11_366 rfl dX11_run_31 dX11_run_34 dX11_run_35 dX11_run_38 dX11_run_41 (Nat.le_of_ble_eq_true rfl) (Nat.le_of_ble_eq_true rfl) ⟨(Nat.le_of_ble_eq_true rfl), (Nat.le_of_ble_eq_true rfl)⟩ (Nat.le_of_ble_eq_true rfl) (Nat.le_of_ble_eq_true rfl) ?_
    subst hg1
    exact kRo_of (Eq.symm (if_pos (show (f_X2_readCommands x ) = 0 from b17))) (congrArg (fun z => kTp (kHc z) r) (Eq.symm (if_pos (show (f_X2_readCommands x ) = 0 from b17))))
