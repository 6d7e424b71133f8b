/-- what reading leaves, the words' marks aside -/
def kRw (x y : kY) : Prop := (∀ r, r ≠ 8 → y.2 r = x.2 r) ∧ (∀ k, k ≠ 10 → k ≠ 13 → y.1 k = x.1 k) ∧ (kHe x → kHe y) ∧ (kB01 (x.1 13) → kB01 (y.1 13))
theorem kRw_x {x y : kY} (h : kRx x y) : kRw x y := ⟨fun r _ => by rw [h.1], h.2⟩
theorem kRw_r {x : kY} : kRw x x := kRw_x kRx_r
theorem kRw_t {x y z : kY} (h1 : kRw x y) (h2 : kRw y z) : kRw x z := ⟨fun r hr => (h2.1 r hr).trans (h1.1 r hr), fun k a b => (h2.2.1 k a b).trans (h1.2.1 k a b), fun h => h2.2.2.1 (h1.2.2.1 h), fun h => h2.2.2.2 (h1.2.2.2 h)⟩
theorem wmL_ok {k : Nat} : ∀ {x : kY} {j : Nat} {i : Int32}, j + k = 7 → kWo x → kHe x → kB01 (x.1 13) → kI10 i → (¬ 0 ≤ i → x.1 13 = 0 → j ≤ 5) → kRw x (wmL k x j i).1 ∧ kI10 (wmL k x j i).2 ∧ ((wmL k x j i).1.1 13 = 0 → 0 ≤ (wmL k x j i).2) := by
  induction k with
  | zero =>
    intro x j i hj hwo he hb hi hI
    rw [wmL]
    split
    · rename_i h0; exact ⟨kRw_r, hi, fun _ => h0⟩
    · rename_i h0; exact ⟨kRw_r, hi, fun h9 => absurd (hI h0 h9) (by omega)⟩
  | succ k ih =>
    intro x j i hj hwo he hb hi hI
    rw [wmL]
    split
    · rename_i h0; exact ⟨kRw_r, hi, fun _ => h0⟩
    · split
      · rename_i h0 h13
        have hwA := waL_x (n := j) (k := 10) (x := x) (j := 0) (m := 0)
        split
        · rename_i hm
          have h9 := ih (x := yS (yS (waL j 10 x 0 0).1 13 1) 10 (((waL j 10 x 0 0).1.1 10) + 0)) (j := j + 1) (i := wbL (yS (yS (waL j 10 x 0 0).1 13 1) 10 (((waL j 10 x 0 0).1.1 10) + 0)) (j + 1) 10 0 i) (by omega) (wo_r hwo (fun r hr => hwA.2 r hr)) (wE0 he hwA.1) (Or.inr rfl) (wb_r (by omega) hi) (fun _ h9 => absurd h9 (by show ¬ (1 : Int32) = 0; decide))
          have r1 : kRw x (yS (yS (waL j 10 x 0 0).1 13 1) 10 (((waL j 10 x 0 0).1.1 10) + 0)) := by
            refine ⟨fun r hr => hwA.2 r hr, fun q h1 h2 => ?_, fun _ => wE0 he hwA.1, fun _ => Or.inr rfl⟩
            show upd (upd (waL j 10 x 0 0).1.1 13 1) 10 _ q = _
            rw [pk_un h1, pk_un h2, hwA.1]
          exact ⟨kRw_t r1 h9.1, h9.2⟩
        · rename_i hm
          have h8 := wH hwo (by omega) hm
          have h9 := ih (x := yS (yS (waL j 10 x 0 0).1 13 0) 10 (((waL j 10 x 0 0).1.1 10) + 1)) (j := j + 1) (i := wbL (yS (yS (waL j 10 x 0 0).1 13 0) 10 (((waL j 10 x 0 0).1.1 10) + 1)) (j + 1) 10 0 i) (by omega) (wo_r hwo (fun r hr => hwA.2 r hr)) (wE he h8 hwA.1) (Or.inl rfl) (wb_r (by omega) hi) (fun h8 _ => wI hwo (by omega) hm h8 rfl)
          have r1 : kRw x (yS (yS (waL j 10 x 0 0).1 13 0) 10 (((waL j 10 x 0 0).1.1 10) + 1)) := by
            refine ⟨fun r hr => hwA.2 r hr, fun q h1 h2 => ?_, fun _ => wE he h8 hwA.1, fun _ => Or.inl rfl⟩
            show upd (upd (waL j 10 x 0 0).1.1 13 0) 10 _ q = _
            rw [pk_un h1, pk_un h2, hwA.1]
          exact ⟨kRw_t r1 h9.1, h9.2⟩
      · rename_i h0 h13
        exact ⟨kRw_r, hi, fun h9 => absurd h9 h13⟩
theorem wd_ok {x : kY} (hwo : kWo x) (he : kHe x) (hb : kB01 (x.1 13)) : kRw x (g_X12_word x) ∧ kI10 (f_X12_word x) ∧ ((g_X12_word x).1 13 = 0 → 0 ≤ f_X12_word x) := by
  have h0 := wiL_x (k := 10) (x := x) (j := 0)
  have h := wmL_ok (k := 7) (x := wiL 10 x 0) (j := 0) (i := -1) (by omega) (wo_r hwo h0.2) (he_1 he h0.1) (by rw [h0.1]; exact hb) hi_0 (fun _ _ => by omega)
  unfold g_X12_word f_X12_word
  exact ⟨kRw_t ⟨fun r hr => h0.2 r hr, fun k _ _ => by rw [h0.1], fun q => he_1 q h0.1, fun q => by rw [h0.1]; exact q⟩ h.1, h.2⟩
theorem wd_k {x : kY} (hwo : kWo x) (he : kHe x) (hb : kB01 (x.1 13)) (h : (g_X12_word x).1 13 = 0) : ∃ k, k < 10 ∧ f_X12_word x = nI k ∧ Int32.toNatClampNeg (f_X12_word x) = k := by
  obtain ⟨-, h1, h2⟩ := wd_ok hwo he hb
  rcases h1 with h1 | ⟨w, hw, e⟩
  · exfalso
    have := h2 h
    rw [h1] at this
    exact absurd this (by decide)
  · exact ⟨w, hw, e, by rw [e, nI_clamp (by omega)]⟩
/-- what a command needs -/
def kOk (x : kY) : Prop := kHe x ∧ kB01 (x.1 13) ∧ kWo x ∧ kMv (x.2 0) ∧ kRm1 (x.2 0)
theorem ok_w {x y : kY} (h : kOk x) (r : kRw x y) : kOk y := by
  obtain ⟨h1, h2, h3, h4, h5⟩ := h
  have e := r.1 0 (by decide)
  exact ⟨r.2.2.1 h1, r.2.2.2 h2, wo_r h3 r.1, by rw [e]; exact h4, by rw [e]; exact h5⟩
theorem dg_w {x : kY} {a : Int32} (h : kOk x) : kOk (g_X12_digits x a) := ok_w h (kRw_x (dg_x h.2.1))
theorem bh_w {x : kY} {a b : Int32} (h : kOk x) (hc : ¬ a = (-1)) : kOk (g_X12_behind x a b) := ok_w h (kRw_x (bh_x h.2.1 hc))
def f_X12_does_0 (x : kY) (a2 : Int32) (a3 : Int32) (a4 : Int32) : Int32 := (f_X12_plants x a2 a3 1)
def g_X12_does_0 (x : kY) (a2 : Int32) (a3 : Int32) (a4 : Int32) : kY := (g_X12_plants x a2 a3 1)
set_option maxRecDepth 100000 in
set_option maxHeartbeats 4000000 in
theorem m_X12_does_0 {x : kY} {a9 : kH} {z9 : kE × kE} {a2 : Int32} {a3 : Int32} {a4 : Int32} (hv : kMv (x.2 0)) : kMet kX12_does false 0 0 [.ref 116, .int 0, .int a2, .int a3, .int a4] (kTp a9 (kHr x z9)) 130 (kRt (some (.int (f_X12_does_0 x a2 a3 a4))) (kTp a9 (kHr (g_X12_does_0 x a2 a3 a4) z9)) 130) := by
  refine kMet.in (by decide) rfl rfl _ rfl ?_
  refine k_iload_n (i := 1) dX12_does_0 (rfl : 0 + 1 = 1) rfl rfl ?_
  refine k_tableIn (tgt := 52) dX12_does_1 (by decide) (by decide) rfl (by decide) ?_
  refine k_aload_n (i := 0) dX12_does_52 (rfl : 52 + 1 = 53) rfl rfl ?_
  refine k_iload_n (i := 2) dX12_does_53 (rfl : 53 + 1 = 54) rfl rfl ?_
  refine k_iload_n (i := 3) dX12_does_54 (rfl : 54 + 1 = 55) rfl rfl ?_
  refine k_iconst (v := 1) dX12_does_55 (rfl : 55 + 1 = 56) (by decide) ?_
  refine k_callVd3 cv_X12_99 ⟨Nat.le_of_ble_eq_true rfl, Nat.le_of_ble_eq_true rfl⟩ (m_X12_plants hv) dX12_does_56 (rfl : 56 + 3 = 59) (Nat.le_of_ble_eq_true rfl) rfl rfl rfl ⟨Nat.le_of_ble_eq_true rfl, Nat.le_of_ble_eq_true rfl⟩ ?_
  refine k_iret rfl rfl dX12_does_59 (Nat.le_of_ble_eq_true rfl) (Nat.le_of_ble_eq_true rfl) ?_
  exact kRt_of rfl rfl
def f_X12_does_1 (x : kY) (a2 : Int32) (a3 : Int32) (a4 : Int32) : Int32 := (f_X12_plants x a2 a3 0)
def g_X12_does_1 (x : kY) (a2 : Int32) (a3 : Int32) (a4 : Int32) : kY := (g_X12_plants x a2 a3 0)
set_option maxRecDepth 100000 in
set_option maxHeartbeats 4000000 in
theorem m_X12_does_1 {x : kY} {a9 : kH} {z9 : kE × kE} {a2 : Int32} {a3 : Int32} {a4 : Int32} (hv : kMv (x.2 0)) : kMet kX12_does false 0 0 [.ref 116, .int 1, .int a2, .int a3, .int a4] (kTp a9 (kHr x z9)) 130 (kRt (some (.int (f_X12_does_1 x a2 a3 a4))) (kTp a9 (kHr (g_X12_does_1 x a2 a3 a4) z9)) 130) := by
  refine kMet.in (by decide) rfl rfl _ rfl ?_
  refine k_iload_n (i := 1) dX12_does_0 (rfl : 0 + 1 = 1) rfl rfl ?_
  refine k_tableIn (tgt := 60) dX12_does_1 (by decide) (by decide) rfl (by decide) ?_
  refine k_aload_n (i := 0) dX12_does_60 (rfl : 60 + 1 = 61) rfl rfl ?_
  refine k_iload_n (i := 2) dX12_does_61 (rfl : 61 + 1 = 62) rfl rfl ?_
  refine k_iload_n (i := 3) dX12_does_62 (rfl : 62 + 1 = 63) rfl rfl ?_
  refine k_iconst (v := 0) dX12_does_63 (rfl : 63 + 1 = 64) (by decide) ?_
  refine k_callVd3 cv_X12_99 ⟨Nat.le_of_ble_eq_true rfl, Nat.le_of_ble_eq_true rfl⟩ (m_X12_plants hv) dX12_does_64 (rfl : 64 + 3 = 67) (Nat.le_of_ble_eq_true rfl) rfl rfl rfl ⟨Nat.le_of_ble_eq_true rfl, Nat.le_of_ble_eq_true rfl⟩ ?_
  refine k_iret rfl rfl dX12_does_67 (Nat.le_of_ble_eq_true rfl) (Nat.le_of_ble_eq_true rfl) ?_
  exact kRt_of rfl rfl
def f_X12_does_2 (x : kY) (a2 : Int32) (a3 : Int32) (a4 : Int32) : Int32 := (f_X12_benches x a2 a3)
def g_X12_does_2 (x : kY) (a2 : Int32) (a3 : Int32) (a4 : Int32) : kY := (g_X12_benches x a2 a3)
set_option maxRecDepth 100000 in
set_option maxHeartbeats 4000000 in
theorem m_X12_does_2 {x : kY} {a9 : kH} {z9 : kE × kE} {a2 : Int32} {a3 : Int32} {a4 : Int32} (hv : kMv (x.2 0)) : kMet kX12_does false 0 0 [.ref 116, .int 2, .int a2, .int a3, .int a4] (kTp a9 (kHr x z9)) 130 (kRt (some (.int (f_X12_does_2 x a2 a3 a4))) (kTp a9 (kHr (g_X12_does_2 x a2 a3 a4) z9)) 130) := by
  refine kMet.in (by decide) rfl rfl _ rfl ?_
  refine k_iload_n (i := 1) dX12_does_0 (rfl : 0 + 1 = 1) rfl rfl ?_
  refine k_tableIn (tgt := 68) dX12_does_1 (by decide) (by decide) rfl (by decide) ?_
  refine k_aload_n (i := 0) dX12_does_68 (rfl : 68 + 1 = 69) rfl rfl ?_
  refine k_iload_n (i := 2) dX12_does_69 (rfl : 69 + 1 = 70) rfl rfl ?_
  refine k_iload_n (i := 3) dX12_does_70 (rfl : 70 + 1 = 71) rfl rfl ?_
  refine k_callVd2 cv_X12_110 ⟨Nat.le_of_ble_eq_true rfl, Nat.le_of_ble_eq_true rfl⟩ (m_X12_benches hv) dX12_does_71 (rfl : 71 + 3 = 74) (Nat.le_of_ble_eq_true rfl) rfl rfl rfl ⟨Nat.le_of_ble_eq_true rfl, Nat.le_of_ble_eq_true rfl⟩ ?_
  refine k_iret rfl rfl dX12_does_74 (Nat.le_of_ble_eq_true rfl) (Nat.le_of_ble_eq_true rfl) ?_
  exact kRt_of rfl rfl
def f_X12_does_3 (x : kY) (a2 : Int32) (a3 : Int32) (a4 : Int32) : Int32 := (f_X12_adds x a2 a3)
def g_X12_does_3 (x : kY) (a2 : Int32) (a3 : Int32) (a4 : Int32) : kY := (g_X12_adds x a2 a3)
set_option maxRecDepth 100000 in
set_option maxHeartbeats 4000000 in
theorem m_X12_does_3 {x : kY} {a9 : kH} {z9 : kE × kE} {a2 : Int32} {a3 : Int32} {a4 : Int32} (hv : kMv (x.2 0)) : kMet kX12_does false 0 0 [.ref 116, .int 3, .int a2, .int a3, .int a4] (kTp a9 (kHr x z9)) 130 (kRt (some (.int (f_X12_does_3 x a2 a3 a4))) (kTp a9 (kHr (g_X12_does_3 x a2 a3 a4) z9)) 130) := by
  refine kMet.in (by decide) rfl rfl _ rfl ?_
  refine k_iload_n (i := 1) dX12_does_0 (rfl : 0 + 1 = 1) rfl rfl ?_
  refine k_tableIn (tgt := 75) dX12_does_1 (by decide) (by decide) rfl (by decide) ?_
  refine k_aload_n (i := 0) dX12_does_75 (rfl : 75 + 1 = 76) rfl rfl ?_
  refine k_iload_n (i := 2) dX12_does_76 (rfl : 76 + 1 = 77) rfl rfl ?_
  refine k_iload_n (i := 3) dX12_does_77 (rfl : 77 + 1 = 78) rfl rfl ?_
  refine k_callVd2 cv_X12_137 ⟨Nat.le_of_ble_eq_true rfl, Nat.le_of_ble_eq_true rfl⟩ (m_X12_adds hv) dX12_does_78 (rfl : 78 + 3 = 81) (Nat.le_of_ble_eq_true rfl) rfl rfl rfl ⟨Nat.le_of_ble_eq_true rfl, Nat.le_of_ble_eq_true rfl⟩ ?_
  refine k_iret rfl rfl dX12_does_81 (Nat.le_of_ble_eq_true rfl) (Nat.le_of_ble_eq_true rfl) ?_
  exact kRt_of rfl rfl
def f_X12_does_4 (x : kY) (a2 : Int32) (a3 : Int32) (a4 : Int32) : Int32 := (f_X12_moves x a2 a3 a4)
def g_X12_does_4 (x : kY) (a2 : Int32) (a3 : Int32) (a4 : Int32) : kY := (g_X12_moves x a2 a3 a4)
set_option maxRecDepth 100000 in
set_option maxHeartbeats 4000000 in
theorem m_X12_does_4 {x : kY} {a9 : kH} {z9 : kE × kE} {a2 : Int32} {a3 : Int32} {a4 : Int32} (hv : kMv (x.2 0)) : kMet kX12_does false 0 0 [.ref 116, .int 4, .int a2, .int a3, .int a4] (kTp a9 (kHr x z9)) 130 (kRt (some (.int (f_X12_does_4 x a2 a3 a4))) (kTp a9 (kHr (g_X12_does_4 x a2 a3 a4) z9)) 130) := by
  refine kMet.in (by decide) rfl rfl _ rfl ?_
  refine k_iload_n (i := 1) dX12_does_0 (rfl : 0 + 1 = 1) rfl rfl ?_
  refine k_tableIn (tgt := 82) dX12_does_1 (by decide) (by decide) rfl (by decide) ?_
  refine k_aload_n (i := 0) dX12_does_82 (rfl : 82 + 1 = 83) rfl rfl ?_
  refine k_iload_n (i := 2) dX12_does_83 (rfl : 83 + 1 = 84) rfl rfl ?_
  refine k_iload_n (i := 3) dX12_does_84 (rfl : 84 + 1 = 85) rfl rfl ?_
  refine k_iload (i := 4) dX12_does_85 (rfl : 85 + 2 = 87) rfl ?_
  refine k_callVd3 cv_X12_143 ⟨Nat.le_of_ble_eq_true rfl, Nat.le_of_ble_eq_true rfl⟩ (m_X12_moves hv) dX12_does_87 (rfl : 87 + 3 = 90) (Nat.le_of_ble_eq_true rfl) rfl rfl rfl ⟨Nat.le_of_ble_eq_true rfl, Nat.le_of_ble_eq_true rfl⟩ ?_
  refine k_iret rfl rfl dX12_does_90 (Nat.le_of_ble_eq_true rfl) (Nat.le_of_ble_eq_true rfl) ?_
  exact kRt_of rfl rfl
def f_X12_does_5 (x : kY) (a2 : Int32) (a3 : Int32) (a4 : Int32) : Int32 := (f_X12_blows x a2 a3)
def g_X12_does_5 (x : kY) (a2 : Int32) (a3 : Int32) (a4 : Int32) : kY := (g_X12_blows x a2 a3)
set_option maxRecDepth 100000 in
set_option maxHeartbeats 4000000 in
theorem m_X12_does_5 {x : kY} {a9 : kH} {z9 : kE × kE} {a2 : Int32} {a3 : Int32} {a4 : Int32} : kMet kX12_does false 0 0 [.ref 116, .int 5, .int a2, .int a3, .int a4] (kTp a9 (kHr x z9)) 130 (kRt (some (.int (f_X12_does_5 x a2 a3 a4))) (kTp a9 (kHr (g_X12_does_5 x a2 a3 a4) z9)) 130) := by
  refine kMet.in (by decide) rfl rfl _ rfl ?_
  refine k_iload_n (i := 1) dX12_does_0 (rfl : 0 + 1 = 1) rfl rfl ?_
  refine k_tableIn (tgt := 91) dX12_does_1 (by decide) (by decide) rfl (by decide) ?_
  refine k_aload_n (i := 0) dX12_does_91 (rfl : 91 + 1 = 92) rfl rfl ?_
  refine k_iload_n (i := 2) dX12_does_92 (rfl : 92 + 1 = 93) rfl rfl ?_
  refine k_iload_n (i := 3) dX12_does_93 (rfl : 93 + 1 = 94) rfl rfl ?_
  refine k_callVd2 cv_X12_128 ⟨Nat.le_of_ble_eq_true rfl, Nat.le_of_ble_eq_true rfl⟩ (m_X12_blows) dX12_does_94 (rfl : 94 + 3 = 97) (Nat.le_of_ble_eq_true rfl) rfl rfl rfl ⟨Nat.le_of_ble_eq_true rfl, Nat.le_of_ble_eq_true rfl⟩ ?_
  refine k_iret rfl rfl dX12_does_97 (Nat.le_of_ble_eq_true rfl) (Nat.le_of_ble_eq_true rfl) ?_
  exact kRt_of rfl rfl
def f_X12_does_6 (x : kY) (a2 : Int32) (a3 : Int32) (a4 : Int32) : Int32 := (f_X12_summons x a2 a3)
def g_X12_does_6 (x : kY) (a2 : Int32) (a3 : Int32) (a4 : Int32) : kY := (g_X12_summons x a2 a3)
set_option maxRecDepth 100000 in
set_option maxHeartbeats 4000000 in
theorem m_X12_does_6 {x : kY} {a9 : kH} {z9 : kE × kE} {a2 : Int32} {a3 : Int32} {a4 : Int32} (hv : kMv (x.2 0)) (hl : kRm1 (x.2 0)) : kMet kX12_does false 0 0 [.ref 116, .int 6, .int a2, .int a3, .int a4] (kTp a9 (kHr x z9)) 130 (kRt (some (.int (f_X12_does_6 x a2 a3 a4))) (kTp a9 (kHr (g_X12_does_6 x a2 a3 a4) z9)) 130) := by
  refine kMet.in (by decide) rfl rfl _ rfl ?_
  refine k_iload_n (i := 1) dX12_does_0 (rfl : 0 + 1 = 1) rfl rfl ?_
  refine k_tableIn (tgt := 98) dX12_does_1 (by decide) (by decide) rfl (by decide) ?_
  refine k_aload_n (i := 0) dX12_does_98 (rfl : 98 + 1 = 99) rfl rfl ?_
  refine k_iload_n (i := 2) dX12_does_99 (rfl : 99 + 1 = 100) rfl rfl ?_
  refine k_iload_n (i := 3) dX12_does_100 (rfl : 100 + 1 = 101) rfl rfl ?_
  refine k_callVd2 cv_X12_178 ⟨Nat.le_of_ble_eq_true rfl, Nat.le_of_ble_eq_true rfl⟩ (m_X12_summons hv hl) dX12_does_101 (rfl : 101 + 3 = 104) (Nat.le_of_ble_eq_true rfl) rfl rfl rfl ⟨Nat.le_of_ble_eq_true rfl, Nat.le_of_ble_eq_true rfl⟩ ?_
  refine k_iret rfl rfl dX12_does_104 (Nat.le_of_ble_eq_true rfl) (Nat.le_of_ble_eq_true rfl) ?_
  exact kRt_of rfl rfl
def f_X12_does_7 (x : kY) (a2 : Int32) (a3 : Int32) (a4 : Int32) : Int32 := (f_X12_buys x a2)
def g_X12_does_7 (x : kY) (a2 : Int32) (a3 : Int32) (a4 : Int32) : kY := (g_X12_buys x a2)
set_option maxRecDepth 100000 in
set_option maxHeartbeats 4000000 in
theorem m_X12_does_7 {x : kY} {a9 : kH} {z9 : kE × kE} {a2 : Int32} {a3 : Int32} {a4 : Int32} : kMet kX12_does false 0 0 [.ref 116, .int 7, .int a2, .int a3, .int a4] (kTp a9 (kHr x z9)) 130 (kRt (some (.int (f_X12_does_7 x a2 a3 a4))) (kTp a9 (kHr (g_X12_does_7 x a2 a3 a4) z9)) 130) := by
  refine kMet.in (by decide) rfl rfl _ rfl ?_
  refine k_iload_n (i := 1) dX12_does_0 (rfl : 0 + 1 = 1) rfl rfl ?_
  refine k_tableIn (tgt := 105) dX12_does_1 (by decide) (by decide) rfl (by decide) ?_
  refine k_aload_n (i := 0) dX12_does_105 (rfl : 105 + 1 = 106) rfl rfl ?_
  refine k_iload_n (i := 2) dX12_does_106 (rfl : 106 + 1 = 107) rfl rfl ?_
  refine k_callVd1 cv_X12_181 ⟨Nat.le_of_ble_eq_true rfl, Nat.le_of_ble_eq_true rfl⟩ (m_X12_buys) dX12_does_107 (rfl : 107 + 3 = 110) (Nat.le_of_ble_eq_true rfl) rfl rfl rfl ⟨Nat.le_of_ble_eq_true rfl, Nat.le_of_ble_eq_true rfl⟩ ?_
  refine k_iret rfl rfl dX12_does_110 (Nat.le_of_ble_eq_true rfl) (Nat.le_of_ble_eq_true rfl) ?_
  exact kRt_of rfl rfl
def f_X12_does_8 (x : kY) (a2 : Int32) (a3 : Int32) (a4 : Int32) : Int32 := (f_X12_hears x a2)
def g_X12_does_8 (x : kY) (a2 : Int32) (a3 : Int32) (a4 : Int32) : kY := (g_X12_hears x a2)
set_option maxRecDepth 100000 in
set_option maxHeartbeats 4000000 in
theorem m_X12_does_8 {x : kY} {a9 : kH} {z9 : kE × kE} {a2 : Int32} {a3 : Int32} {a4 : Int32} (hv : kMv (x.2 0)) : kMet kX12_does false 0 0 [.ref 116, .int 8, .int a2, .int a3, .int a4] (kTp a9 (kHr x z9)) 130 (kRt (some (.int (f_X12_does_8 x a2 a3 a4))) (kTp a9 (kHr (g_X12_does_8 x a2 a3 a4) z9)) 130) := by
  refine kMet.in (by decide) rfl rfl _ rfl ?_
  refine k_iload_n (i := 1) dX12_does_0 (rfl : 0 + 1 = 1) rfl rfl ?_
  refine k_tableIn (tgt := 111) dX12_does_1 (by decide) (by decide) rfl (by decide) ?_
  refine k_aload_n (i := 0) dX12_does_111 (rfl : 111 + 1 = 112) rfl rfl ?_
  refine k_iload_n (i := 2) dX12_does_112 (rfl : 112 + 1 = 113) rfl rfl ?_
  refine k_callVd1 cv_X12_207 ⟨Nat.le_of_ble_eq_true rfl, Nat.le_of_ble_eq_true rfl⟩ (m_X12_hears hv) dX12_does_113 (rfl : 113 + 3 = 116) (Nat.le_of_ble_eq_true rfl) rfl rfl rfl ⟨Nat.le_of_ble_eq_true rfl, Nat.le_of_ble_eq_true rfl⟩ ?_
  refine k_iret rfl rfl dX12_does_116 (Nat.le_of_ble_eq_true rfl) (Nat.le_of_ble_eq_true rfl) ?_
  exact kRt_of rfl rfl
def f_X12_does_9 (x : kY) (a2 : Int32) (a3 : Int32) (a4 : Int32) : Int32 := (f_X12_passes x a2)
def g_X12_does_9 (x : kY) (a2 : Int32) (a3 : Int32) (a4 : Int32) : kY := (g_X12_passes x a2)
set_option maxRecDepth 100000 in
set_option maxHeartbeats 4000000 in
theorem m_X12_does_9 {x : kY} {a9 : kH} {z9 : kE × kE} {a2 : Int32} {a3 : Int32} {a4 : Int32} (hv : kMv (x.2 0)) : kMet kX12_does false 0 0 [.ref 116, .int 9, .int a2, .int a3, .int a4] (kTp a9 (kHr x z9)) 130 (kRt (some (.int (f_X12_does_9 x a2 a3 a4))) (kTp a9 (kHr (g_X12_does_9 x a2 a3 a4) z9)) 130) := by
  refine kMet.in (by decide) rfl rfl _ rfl ?_
  refine k_iload_n (i := 1) dX12_does_0 (rfl : 0 + 1 = 1) rfl rfl ?_
  refine k_tableOut (tgt := 117) dX12_does_1 (by decide) (by decide) ?_
  refine k_aload_n (i := 0) dX12_does_117 (rfl : 117 + 1 = 118) rfl rfl ?_
  refine k_iload_n (i := 2) dX12_does_118 (rfl : 118 + 1 = 119) rfl rfl ?_
  refine k_callVd1 cv_X12_213 ⟨Nat.le_of_ble_eq_true rfl, Nat.le_of_ble_eq_true rfl⟩ (m_X12_passes hv) dX12_does_119 (rfl : 119 + 3 = 122) (Nat.le_of_ble_eq_true rfl) rfl rfl rfl ⟨Nat.le_of_ble_eq_true rfl, Nat.le_of_ble_eq_true rfl⟩ ?_
  refine k_iret rfl rfl dX12_does_122 (Nat.le_of_ble_eq_true rfl) (Nat.le_of_ble_eq_true rfl) ?_
  exact kRt_of rfl rfl
def g_cmd_0 (x : kY) : kY := if ((g_X12_digits x 1).1 13) = 0 then (if ((g_X12_digits (g_X12_digits x 1) 1).1 13) = 0 then (if ((g_X12_digits (g_X12_digits x 1) 1).1 14) = 0 then (g_X12_digits (g_X12_digits x 1) 1) else (g_X12_does_0 (g_X12_digits (g_X12_digits x 1) 1) (f_X12_digits x 1) (f_X12_digits (g_X12_digits x 1) 1) 0)) else (g_X12_digits (g_X12_digits x 1) 1)) else (g_X12_digits x 1)
set_option maxRecDepth 100000 in
set_option maxHeartbeats 4000000 in
theorem l_cmd_0 {x : kY} {a9 : kH} {z9 : kE × kE} (ok : kOk x) : kEv kX12_command (kRm kX12_command 0 0) (kFm false 0 0 ((kRt none (kTp a9 (kHr (g_cmd_0 x) z9)) 130))) false 17 [.ref 116, .int 0, .int 0, .int 0, .retAddr 0, .retAddr 0] [] (kTp a9 (kHr x z9)) 130 0 0 := by
  refine k_aload_n (i := 0) dX12_command_17 (rfl : 17 + 1 = 18) rfl rfl ?_
  refine k_iload_n (i := 1) dX12_command_18 (rfl : 18 + 1 = 19) rfl rfl ?_
  refine k_bipush (v := 7) dX12_command_19 (rfl : 19 + 2 = 21) (by decide) ?_
  refine k_icmp_eq (tgt := 30) dX12_command_21 (rfl : 21 + 3 = 24) (by decide) (fun b21 => by exact absurd b21 (by decide)) (fun b21 => ?_)
  refine k_iload_n (i := 1) dX12_command_24 (rfl : 24 + 1 = 25) rfl rfl ?_
  refine k_bipush (v := 9) dX12_command_25 (rfl : 25 + 2 = 27) (by decide) ?_
  refine k_icmp_ne (tgt := 34) dX12_command_27 (rfl : 27 + 3 = 30) (by decide) (fun b27 => ?_) (fun b27 => by exact absurd b27 (by decide))
  refine k_iconst (v := 1) dX12_command_34 (rfl : 34 + 1 = 35) (by decide) ?_
  refine k_callVd1 cv_X12_246 ⟨Nat.le_of_ble_eq_true rfl, Nat.le_of_ble_eq_true rfl⟩ (m_X12_digits ok.1 ok.2.1) dX12_command_35 (rfl : 35 + 3 = 38) (Nat.le_of_ble_eq_true rfl) rfl rfl rfl ⟨Nat.le_of_ble_eq_true rfl, Nat.le_of_ble_eq_true rfl⟩ ?_
  generalize hg1 : (g_X12_digits x 1) = y1
  have oy1 : kOk y1 := by rw [← hg1]; first | exact dg_w ok | exact dg_w (by assumption)
  refine k_istore (i := 4) dX12_command_38 (rfl : 38 + 2 = 40) (Nat.le_of_ble_eq_true rfl) ?_
  refine k_ls (ls2 := [.ref 116, .int 0, .int 0, .int 0, .int (f_X12_digits x 1), .retAddr 0]) rfl ?_
  refine k_iload_n (i := 1) dX12_command_40 (rfl : 40 + 1 = 41) rfl rfl ?_
  refine k_iconst (v := 4) dX12_command_41 (rfl : 41 + 1 = 42) (by decide) ?_
  refine k_icmp_lt (tgt := 50) dX12_command_42 (rfl : 42 + 3 = 45) (by decide) (fun b42 => ?_) (fun b42 => by exact absurd (by decide) b42)
  refine k_aload_n (i := 0) dX12_command_50 (rfl : 50 + 1 = 51) rfl rfl ?_
  refine k_get 12 24 fg_X12_237 dX12_command_51 (rfl : 51 + 3 = 54) (Nat.le_of_ble_eq_true rfl) rfl rfl ?_
  refine k_if_ne (tgt := 63) dX12_command_54 (rfl : 54 + 3 = 57) (by decide) (fun b54 => ?_) (fun b54 => ?_)
  · refine k_iload_n (i := 1) dX12_command_63 (rfl : 63 + 1 = 64) rfl rfl ?_
    refine k_iconst (v := 4) dX12_command_64 (rfl : 64 + 1 = 65) (by decide) ?_
    refine k_icmp_ne (tgt := 83) dX12_command_65 (rfl : 65 + 3 = 68) (by decide) (fun b65 => ?_) (fun b65 => by exact absurd b65 (by decide))
    refine k_iload_n (i := 1) dX12_command_83 (rfl : 83 + 1 = 84) rfl rfl ?_
    refine k_iconst (v := 4) dX12_command_84 (rfl : 84 + 1 = 85) (by decide) ?_
    refine k_icmp_ne (tgt := 101) dX12_command_85 (rfl : 85 + 3 = 88) (by decide) (fun b85 => ?_) (fun b85 => by exact absurd b85 (by decide))
    refine k_iload_n (i := 1) dX12_command_101 (rfl : 101 + 1 = 102) rfl rfl ?_
    refine k_bipush (v := 6) dX12_command_102 (rfl : 102 + 2 = 104) (by decide) ?_
    refine k_icmp_ne (tgt := 122) dX12_command_104 (rfl : 104 + 3 = 107) (by decide) (fun b104 => ?_) (fun b104 => by exact absurd b104 (by decide))
    refine k_aload_n (i := 0) dX12_command_122 (rfl : 122 + 1 = 123) rfl rfl ?_
    refine k_get 12 24 fg_X12_237 dX12_command_123 (rfl : 123 + 3 = 126) (Nat.le_of_ble_eq_true rfl) rfl rfl ?_
    refine k_if_ne (tgt := 136) dX12_command_126 (rfl : 126 + 3 = 129) (by decide) (fun b126 => ?_) (fun b126 => by exact absurd b126 b54)
    refine k_vret rfl dX12_command_136 (Nat.le_of_ble_eq_true rfl) (Nat.le_of_ble_eq_true rfl) ?_
    subst hg1
    exact kRt_of rfl (congrArg (fun z => kTp a9 (kHr z z9)) (Eq.symm (if_neg (show ¬ (((g_X12_digits x 1).1 13) = 0) from b54))))
  · refine k_aload_n (i := 0) dX12_command_57 (rfl : 57 + 1 = 58) rfl rfl ?_
    refine k_iconst (v := 1) dX12_command_58 (rfl : 58 + 1 = 59) (by decide) ?_
    refine k_callVd1 cv_X12_246 ⟨Nat.le_of_ble_eq_true rfl, Nat.le_of_ble_eq_true rfl⟩ (m_X12_digits oy1.1 oy1.2.1) dX12_command_59 (rfl : 59 + 3 = 62) (Nat.le_of_ble_eq_true rfl) rfl rfl rfl ⟨Nat.le_of_ble_eq_true rfl, Nat.le_of_ble_eq_true rfl⟩ ?_
    generalize hg2 : (g_X12_digits y1 1) = y2
    have oy2 : kOk y2 := by rw [← hg2]; first | exact dg_w ok | exact dg_w (by assumption)
    refine k_istore_n (i := 2) dX12_command_62 (rfl : 62 + 1 = 63) rfl (Nat.le_of_ble_eq_true rfl) ?_
    refine k_ls (ls2 := [.ref 116, .int 0, .int (f_X12_digits y1 1), .int 0, .int (f_X12_digits x 1), .retAddr 0]) rfl ?_
    refine k_iload_n (i := 1) dX12_command_63 (rfl : 63 + 1 = 64) rfl rfl ?_
    refine k_iconst (v := 4) dX12_command_64 (rfl : 64 + 1 = 65) (by decide) ?_
    refine k_icmp_ne (tgt := 83) dX12_command_65 (rfl : 65 + 3 = 68) (by decide) (fun b65 => ?_) (fun b65 => by exact absurd b65 (by decide))
    refine k_iload_n (i := 1) dX12_command_83 (rfl : 83 + 1 = 84) rfl rfl ?_
    refine k_iconst (v := 4) dX12_command_84 (rfl : 84 + 1 = 85) (by decide) ?_
    refine k_icmp_ne (tgt := 101) dX12_command_85 (rfl : 85 + 3 = 88) (by decide) (fun b85 => ?_) (fun b85 => by exact absurd b85 (by decide))
    refine k_iload_n (i := 1) dX12_command_101 (rfl : 101 + 1 = 102) rfl rfl ?_
    refine k_bipush (v := 6) dX12_command_102 (rfl : 102 + 2 = 104) (by decide) ?_
    refine k_icmp_ne (tgt := 122) dX12_command_104 (rfl : 104 + 3 = 107) (by decide) (fun b104 => ?_) (fun b104 => by exact absurd b104 (by decide))
    refine k_aload_n (i := 0) dX12_command_122 (rfl : 122 + 1 = 123) rfl rfl ?_
    refine k_get 12 24 fg_X12_237 dX12_command_123 (rfl : 123 + 3 = 126) (Nat.le_of_ble_eq_true rfl) rfl rfl ?_
    refine k_if_ne (tgt := 136) dX12_command_126 (rfl : 126 + 3 = 129) (by decide) (fun b126 => ?_) (fun b126 => ?_)
    · refine k_vret rfl dX12_command_136 (Nat.le_of_ble_eq_true rfl) (Nat.le_of_ble_eq_true rfl) ?_
      subst hg2
      subst hg1
      exact kRt_of rfl (congrArg (fun z => kTp a9 (kHr z z9)) (Eq.symm (Eq.trans (if_pos (show ((g_X12_digits x 1).1 13) = 0 from b54)) (if_neg (show ¬ (((g_X12_digits (g_X12_digits x 1) 1).1 13) = 0) from b126)))))
    · refine k_aload_n (i := 0) dX12_command_129 (rfl : 129 + 1 = 130) rfl rfl ?_
      refine k_get 12 25 fg_X12_255 dX12_command_130 (rfl : 130 + 3 = 133) (Nat.le_of_ble_eq_true rfl) rfl rfl ?_
      refine k_if_ne (tgt := 137) dX12_command_133 (rfl : 133 + 3 = 136) (by decide) (fun b133 => ?_) (fun b133 => ?_)
      · refine k_aload_n (i := 0) dX12_command_137 (rfl : 137 + 1 = 138) rfl rfl ?_
        refine k_iload_n (i := 1) dX12_command_138 (rfl : 138 + 1 = 139) rfl rfl ?_
        refine k_iload (i := 4) dX12_command_139 (rfl : 139 + 2 = 141) rfl ?_
        refine k_iload_n (i := 2) dX12_command_141 (rfl : 141 + 1 = 142) rfl rfl ?_
        refine k_iload_n (i := 3) dX12_command_142 (rfl : 142 + 1 = 143) rfl rfl ?_
        refine k_callVd4 cv_X12_258 ⟨Nat.le_of_ble_eq_true rfl, Nat.le_of_ble_eq_true rfl⟩ (m_X12_does_0 oy2.2.2.2.1) dX12_command_143 (rfl : 143 + 3 = 146) (Nat.le_of_ble_eq_true rfl) rfl rfl rfl ⟨Nat.le_of_ble_eq_true rfl, Nat.le_of_ble_eq_true rfl⟩ ?_
        generalize hg3 : (g_X12_does_0 y2 (f_X12_digits x 1) (f_X12_digits y1 1) 0) = y3
        refine k_istore (i := 5) dX12_command_146 (rfl : 146 + 2 = 148) (Nat.le_of_ble_eq_true rfl) ?_
        refine k_ls (ls2 := [.ref 116, .int 0, .int (f_X12_digits y1 1), .int 0, .int (f_X12_digits x 1), .int (f_X12_does_0 y2 (f_X12_digits x 1) (f_X12_digits y1 1) 0)]) rfl ?_
        refine k_vret rfl dX12_command_148 (Nat.le_of_ble_eq_true rfl) (Nat.le_of_ble_eq_true rfl) ?_
        subst hg3
        subst hg2
        subst hg1
        exact kRt_of rfl (congrArg (fun z => kTp a9 (kHr z z9)) (Eq.symm (Eq.trans (if_pos (show ((g_X12_digits x 1).1 13) = 0 from b54)) (Eq.trans (if_pos (show ((g_X12_digits (g_X12_digits x 1) 1).1 13) = 0 from b126)) (if_neg (show ¬ (((g_X12_digits (g_X12_digits x 1) 1).1 14) = 0) from b133))))))
      · refine k_vret rfl dX12_command_136 (Nat.le_of_ble_eq_true rfl) (Nat.le_of_ble_eq_true rfl) ?_
        subst hg2
        subst hg1
        exact kRt_of rfl (congrArg (fun z => kTp a9 (kHr z z9)) (Eq.symm (Eq.trans (if_pos (show ((g_X12_digits x 1).1 13) = 0 from b54)) (Eq.trans (if_pos (show ((g_X12_digits (g_X12_digits x 1) 1).1 13) = 0 from b126)) (if_pos (show ((g_X12_digits (g_X12_digits x 1) 1).1 14) = 0 from b133))))))
def g_cmd_1 (x : kY) : kY := if ((g_X12_digits x 1).1 13) = 0 then (if ((g_X12_digits (g_X12_digits x 1) 1).1 13) = 0 then (if ((g_X12_digits (g_X12_digits x 1) 1).1 14) = 0 then (g_X12_digits (g_X12_digits x 1) 1) else (g_X12_does_1 (g_X12_digits (g_X12_digits x 1) 1) (f_X12_digits x 1) (f_X12_digits (g_X12_digits x 1) 1) 0)) else (g_X12_digits (g_X12_digits x 1) 1)) else (g_X12_digits x 1)
set_option maxRecDepth 100000 in
set_option maxHeartbeats 4000000 in
theorem l_cmd_1 {x : kY} {a9 : kH} {z9 : kE × kE} (ok : kOk x) : kEv kX12_command (kRm kX12_command 0 0) (kFm false 0 0 ((kRt none (kTp a9 (kHr (g_cmd_1 x) z9)) 130))) false 17 [.ref 116, .int 1, .int 0, .int 0, .retAddr 0, .retAddr 0] [] (kTp a9 (kHr x z9)) 130 0 0 := by
  refine k_aload_n (i := 0) dX12_command_17 (rfl : 17 + 1 = 18) rfl rfl ?_
  refine k_iload_n (i := 1) dX12_command_18 (rfl : 18 + 1 = 19) rfl rfl ?_
  refine k_bipush (v := 7) dX12_command_19 (rfl : 19 + 2 = 21) (by decide) ?_
  refine k_icmp_eq (tgt := 30) dX12_command_21 (rfl : 21 + 3 = 24) (by decide) (fun b21 => by exact absurd b21 (by decide)) (fun b21 => ?_)
  refine k_iload_n (i := 1) dX12_command_24 (rfl : 24 + 1 = 25) rfl rfl ?_
  refine k_bipush (v := 9) dX12_command_25 (rfl : 25 + 2 = 27) (by decide) ?_
  refine k_icmp_ne (tgt := 34) dX12_command_27 (rfl : 27 + 3 = 30) (by decide) (fun b27 => ?_) (fun b27 => by exact absurd b27 (by decide))
  refine k_iconst (v := 1) dX12_command_34 (rfl : 34 + 1 = 35) (by decide) ?_
  refine k_callVd1 cv_X12_246 ⟨Nat.le_of_ble_eq_true rfl, Nat.le_of_ble_eq_true rfl⟩ (m_X12_digits ok.1 ok.2.1) dX12_command_35 (rfl : 35 + 3 = 38) (Nat.le_of_ble_eq_true rfl) rfl rfl rfl ⟨Nat.le_of_ble_eq_true rfl, Nat.le_of_ble_eq_true rfl⟩ ?_
  generalize hg1 : (g_X12_digits x 1) = y1
  have oy1 : kOk y1 := by rw [← hg1]; first | exact dg_w ok | exact dg_w (by assumption)
  refine k_istore (i := 4) dX12_command_38 (rfl : 38 + 2 = 40) (Nat.le_of_ble_eq_true rfl) ?_
  refine k_ls (ls2 := [.ref 116, .int 1, .int 0, .int 0, .int (f_X12_digits x 1), .retAddr 0]) rfl ?_
  refine k_iload_n (i := 1) dX12_command_40 (rfl : 40 + 1 = 41) rfl rfl ?_
  refine k_iconst (v := 4) dX12_command_41 (rfl : 41 + 1 = 42) (by decide) ?_
  refine k_icmp_lt (tgt := 50) dX12_command_42 (rfl : 42 + 3 = 45) (by decide) (fun b42 => ?_) (fun b42 => by exact absurd (by decide) b42)
  refine k_aload_n (i := 0) dX12_command_50 (rfl : 50 + 1 = 51) rfl rfl ?_
  refine k_get 12 24 fg_X12_237 dX12_command_51 (rfl : 51 + 3 = 54) (Nat.le_of_ble_eq_true rfl) rfl rfl ?_
  refine k_if_ne (tgt := 63) dX12_command_54 (rfl : 54 + 3 = 57) (by decide) (fun b54 => ?_) (fun b54 => ?_)
  · refine k_iload_n (i := 1) dX12_command_63 (rfl : 63 + 1 = 64) rfl rfl ?_
    refine k_iconst (v := 4) dX12_command_64 (rfl : 64 + 1 = 65) (by decide) ?_
    refine k_icmp_ne (tgt := 83) dX12_command_65 (rfl : 65 + 3 = 68) (by decide) (fun b65 => ?_) (fun b65 => by exact absurd b65 (by decide))
    refine k_iload_n (i := 1) dX12_command_83 (rfl : 83 + 1 = 84) rfl rfl ?_
    refine k_iconst (v := 4) dX12_command_84 (rfl : 84 + 1 = 85) (by decide) ?_
    refine k_icmp_ne (tgt := 101) dX12_command_85 (rfl : 85 + 3 = 88) (by decide) (fun b85 => ?_) (fun b85 => by exact absurd b85 (by decide))
    refine k_iload_n (i := 1) dX12_command_101 (rfl : 101 + 1 = 102) rfl rfl ?_
    refine k_bipush (v := 6) dX12_command_102 (rfl : 102 + 2 = 104) (by decide) ?_
    refine k_icmp_ne (tgt := 122) dX12_command_104 (rfl : 104 + 3 = 107) (by decide) (fun b104 => ?_) (fun b104 => by exact absurd b104 (by decide))
    refine k_aload_n (i := 0) dX12_command_122 (rfl : 122 + 1 = 123) rfl rfl ?_
    refine k_get 12 24 fg_X12_237 dX12_command_123 (rfl : 123 + 3 = 126) (Nat.le_of_ble_eq_true rfl) rfl rfl ?_
    refine k_if_ne (tgt := 136) dX12_command_126 (rfl : 126 + 3 = 129) (by decide) (fun b126 => ?_) (fun b126 => by exact absurd b126 b54)
    refine k_vret rfl dX12_command_136 (Nat.le_of_ble_eq_true rfl) (Nat.le_of_ble_eq_true rfl) ?_
    subst hg1
    exact kRt_of rfl (congrArg (fun z => kTp a9 (kHr z z9)) (Eq.symm (if_neg (show ¬ (((g_X12_digits x 1).1 13) = 0) from b54))))
  · refine k_aload_n (i := 0) dX12_command_57 (rfl : 57 + 1 = 58) rfl rfl ?_
    refine k_iconst (v := 1) dX12_command_58 (rfl : 58 + 1 = 59) (by decide) ?_
    refine k_callVd1 cv_X12_246 ⟨Nat.le_of_ble_eq_true rfl, Nat.le_of_ble_eq_true rfl⟩ (m_X12_digits oy1.1 oy1.2.1) dX12_command_59 (rfl : 59 + 3 = 62) (Nat.le_of_ble_eq_true rfl) rfl rfl rfl ⟨Nat.le_of_ble_eq_true rfl, Nat.le_of_ble_eq_true rfl⟩ ?_
    generalize hg2 : (g_X12_digits y1 1) = y2
    have oy2 : kOk y2 := by rw [← hg2]; first | exact dg_w ok | exact dg_w (by assumption)
    refine k_istore_n (i := 2) dX12_command_62 (rfl : 62 + 1 = 63) rfl (Nat.le_of_ble_eq_true rfl) ?_
    refine k_ls (ls2 := [.ref 116, .int 1, .int (f_X12_digits y1 1), .int 0, .int (f_X12_digits x 1), .retAddr 0]) rfl ?_
    refine k_iload_n (i := 1) dX12_command_63 (rfl : 63 + 1 = 64) rfl rfl ?_
    refine k_iconst (v := 4) dX12_command_64 (rfl : 64 + 1 = 65) (by decide) ?_
    refine k_icmp_ne (tgt := 83) dX12_command_65 (rfl : 65 + 3 = 68) (by decide) (fun b65 => ?_) (fun b65 => by exact absurd b65 (by decide))
    refine k_iload_n (i := 1) dX12_command_83 (rfl : 83 + 1 = 84) rfl rfl ?_
    refine k_iconst (v := 4) dX12_command_84 (rfl : 84 + 1 = 85) (by decide) ?_
    refine k_icmp_ne (tgt := 101) dX12_command_85 (rfl : 85 + 3 = 88) (by decide) (fun b85 => ?_) (fun b85 => by exact absurd b85 (by decide))
    refine k_iload_n (i := 1) dX12_command_101 (rfl : 101 + 1 = 102) rfl rfl ?_
    refine k_bipush (v := 6) dX12_command_102 (rfl : 102 + 2 = 104) (by decide) ?_
    refine k_icmp_ne (tgt := 122) dX12_command_104 (rfl : 104 + 3 = 107) (by decide) (fun b104 => ?_) (fun b104 => by exact absurd b104 (by decide))
    refine k_aload_n (i := 0) dX12_command_122 (rfl : 122 + 1 = 123) rfl rfl ?_
    refine k_get 12 24 fg_X12_237 dX12_command_123 (rfl : 123 + 3 = 126) (Nat.le_of_ble_eq_true rfl) rfl rfl ?_
    refine k_if_ne (tgt := 136) dX12_command_126 (rfl : 126 + 3 = 129) (by decide) (fun b126 => ?_) (fun b126 => ?_)
    · refine k_vret rfl dX12_command_136 (Nat.le_of_ble_eq_true rfl) (Nat.le_of_ble_eq_true rfl) ?_
      subst hg2
      subst hg1
      exact kRt_of rfl (congrArg (fun z => kTp a9 (kHr z z9)) (Eq.symm (Eq.trans (if_pos (show ((g_X12_digits x 1).1 13) = 0 from b54)) (if_neg (show ¬ (((g_X12_digits (g_X12_digits x 1) 1).1 13) = 0) from b126)))))
    · refine k_aload_n (i := 0) dX12_command_129 (rfl : 129 + 1 = 130) rfl rfl ?_
      refine k_get 12 25 fg_X12_255 dX12_command_130 (rfl : 130 + 3 = 133) (Nat.le_of_ble_eq_true rfl) rfl rfl ?_
      refine k_if_ne (tgt := 137) dX12_command_133 (rfl : 133 + 3 = 136) (by decide) (fun b133 => ?_) (fun b133 => ?_)
      · refine k_aload_n (i := 0) dX12_command_137 (rfl : 137 + 1 = 138) rfl rfl ?_
        refine k_iload_n (i := 1) dX12_command_138 (rfl : 138 + 1 = 139) rfl rfl ?_
        refine k_iload (i := 4) dX12_command_139 (rfl : 139 + 2 = 141) rfl ?_
        refine k_iload_n (i := 2) dX12_command_141 (rfl : 141 + 1 = 142) rfl rfl ?_
        refine k_iload_n (i := 3) dX12_command_142 (rfl : 142 + 1 = 143) rfl rfl ?_
        refine k_callVd4 cv_X12_258 ⟨Nat.le_of_ble_eq_true rfl, Nat.le_of_ble_eq_true rfl⟩ (m_X12_does_1 oy2.2.2.2.1) dX12_command_143 (rfl : 143 + 3 = 146) (Nat.le_of_ble_eq_true rfl) rfl rfl rfl ⟨Nat.le_of_ble_eq_true rfl, Nat.le_of_ble_eq_true rfl⟩ ?_
        generalize hg3 : (g_X12_does_1 y2 (f_X12_digits x 1) (f_X12_digits y1 1) 0) = y3
        refine k_istore (i := 5) dX12_command_146 (rfl : 146 + 2 = 148) (Nat.le_of_ble_eq_true rfl) ?_
        refine k_ls (ls2 := [.ref 116, .int 1, .int (f_X12_digits y1 1), .int 0, .int (f_X12_digits x 1), .int (f_X12_does_1 y2 (f_X12_digits x 1) (f_X12_digits y1 1) 0)]) rfl ?_
        refine k_vret rfl dX12_command_148 (Nat.le_of_ble_eq_true rfl) (Nat.le_of_ble_eq_true rfl) ?_
        subst hg3
        subst hg2
        subst hg1
        exact kRt_of rfl (congrArg (fun z => kTp a9 (kHr z z9)) (Eq.symm (Eq.trans (if_pos (show ((g_X12_digits x 1).1 13) = 0 from b54)) (Eq.trans (if_pos (show ((g_X12_digits (g_X12_digits x 1) 1).1 13) = 0 from b126)) (if_neg (show ¬ (((g_X12_digits (g_X12_digits x 1) 1).1 14) = 0) from b133))))))
      · refine k_vret rfl dX12_command_136 (Nat.le_of_ble_eq_true rfl) (Nat.le_of_ble_eq_true rfl) ?_
        subst hg2
        subst hg1
        exact kRt_of rfl (congrArg (fun z => kTp a9 (kHr z z9)) (Eq.symm (Eq.trans (if_pos (show ((g_X12_digits x 1).1 13) = 0 from b54)) (Eq.trans (if_pos (show ((g_X12_digits (g_X12_digits x 1) 1).1 13) = 0 from b126)) (if_pos (show ((g_X12_digits (g_X12_digits x 1) 1).1 14) = 0 from b133))))))
def g_cmd_2 (x : kY) : kY := if ((g_X12_digits x 1).1 13) = 0 then (if ((g_X12_digits (g_X12_digits x 1) 1).1 13) = 0 then (if ((g_X12_digits (g_X12_digits x 1) 1).1 14) = 0 then (g_X12_digits (g_X12_digits x 1) 1) else (g_X12_does_2 (g_X12_digits (g_X12_digits x 1) 1) (f_X12_digits x 1) (f_X12_digits (g_X12_digits x 1) 1) 0)) else (g_X12_digits (g_X12_digits x 1) 1)) else (g_X12_digits x 1)
set_option maxRecDepth 100000 in
set_option maxHeartbeats 4000000 in
theorem l_cmd_2 {x : kY} {a9 : kH} {z9 : kE × kE} (ok : kOk x) : kEv kX12_command (kRm kX12_command 0 0) (kFm false 0 0 ((kRt none (kTp a9 (kHr (g_cmd_2 x) z9)) 130))) false 17 [.ref 116, .int 2, .int 0, .int 0, .retAddr 0, .retAddr 0] [] (kTp a9 (kHr x z9)) 130 0 0 := by
  refine k_aload_n (i := 0) dX12_command_17 (rfl : 17 + 1 = 18) rfl rfl ?_
  refine k_iload_n (i := 1) dX12_command_18 (rfl : 18 + 1 = 19) rfl rfl ?_
  refine k_bipush (v := 7) dX12_command_19 (rfl : 19 + 2 = 21) (by decide) ?_
  refine k_icmp_eq (tgt := 30) dX12_command_21 (rfl : 21 + 3 = 24) (by decide) (fun b21 => by exact absurd b21 (by decide)) (fun b21 => ?_)
  refine k_iload_n (i := 1) dX12_command_24 (rfl : 24 + 1 = 25) rfl rfl ?_
  refine k_bipush (v := 9) dX12_command_25 (rfl : 25 + 2 = 27) (by decide) ?_
  refine k_icmp_ne (tgt := 34) dX12_command_27 (rfl : 27 + 3 = 30) (by decide) (fun b27 => ?_) (fun b27 => by exact absurd b27 (by decide))
  refine k_iconst (v := 1) dX12_command_34 (rfl : 34 + 1 = 35) (by decide) ?_
  refine k_callVd1 cv_X12_246 ⟨Nat.le_of_ble_eq_true rfl, Nat.le_of_ble_eq_true rfl⟩ (m_X12_digits ok.1 ok.2.1) dX12_command_35 (rfl : 35 + 3 = 38) (Nat.le_of_ble_eq_true rfl) rfl rfl rfl ⟨Nat.le_of_ble_eq_true rfl, Nat.le_of_ble_eq_true rfl⟩ ?_
  generalize hg1 : (g_X12_digits x 1) = y1
  have oy1 : kOk y1 := by rw [← hg1]; first | exact dg_w ok | exact dg_w (by assumption)
  refine k_istore (i := 4) dX12_command_38 (rfl : 38 + 2 = 40) (Nat.le_of_ble_eq_true rfl) ?_
  refine k_ls (ls2 := [.ref 116, .int 2, .int 0, .int 0, .int (f_X12_digits x 1), .retAddr 0]) rfl ?_
  refine k_iload_n (i := 1) dX12_command_40 (rfl : 40 + 1 = 41) rfl rfl ?_
  refine k_iconst (v := 4) dX12_command_41 (rfl : 41 + 1 = 42) (by decide) ?_
  refine k_icmp_lt (tgt := 50) dX12_command_42 (rfl : 42 + 3 = 45) (by decide) (fun b42 => ?_) (fun b42 => by exact absurd (by decide) b42)
  refine k_aload_n (i := 0) dX12_command_50 (rfl : 50 + 1 = 51) rfl rfl ?_
  refine k_get 12 24 fg_X12_237 dX12_command_51 (rfl : 51 + 3 = 54) (Nat.le_of_ble_eq_true rfl) rfl rfl ?_
  refine k_if_ne (tgt := 63) dX12_command_54 (rfl : 54 + 3 = 57) (by decide) (fun b54 => ?_) (fun b54 => ?_)
  · refine k_iload_n (i := 1) dX12_command_63 (rfl : 63 + 1 = 64) rfl rfl ?_
    refine k_iconst (v := 4) dX12_command_64 (rfl : 64 + 1 = 65) (by decide) ?_
    refine k_icmp_ne (tgt := 83) dX12_command_65 (rfl : 65 + 3 = 68) (by decide) (fun b65 => ?_) (fun b65 => by exact absurd b65 (by decide))
    refine k_iload_n (i := 1) dX12_command_83 (rfl : 83 + 1 = 84) rfl rfl ?_
    refine k_iconst (v := 4) dX12_command_84 (rfl : 84 + 1 = 85) (by decide) ?_
    refine k_icmp_ne (tgt := 101) dX12_command_85 (rfl : 85 + 3 = 88) (by decide) (fun b85 => ?_) (fun b85 => by exact absurd b85 (by decide))
    refine k_iload_n (i := 1) dX12_command_101 (rfl : 101 + 1 = 102) rfl rfl ?_
    refine k_bipush (v := 6) dX12_command_102 (rfl : 102 + 2 = 104) (by decide) ?_
    refine k_icmp_ne (tgt := 122) dX12_command_104 (rfl : 104 + 3 = 107) (by decide) (fun b104 => ?_) (fun b104 => by exact absurd b104 (by decide))
    refine k_aload_n (i := 0) dX12_command_122 (rfl : 122 + 1 = 123) rfl rfl ?_
    refine k_get 12 24 fg_X12_237 dX12_command_123 (rfl : 123 + 3 = 126) (Nat.le_of_ble_eq_true rfl) rfl rfl ?_
    refine k_if_ne (tgt := 136) dX12_command_126 (rfl : 126 + 3 = 129) (by decide) (fun b126 => ?_) (fun b126 => by exact absurd b126 b54)
    refine k_vret rfl dX12_command_136 (Nat.le_of_ble_eq_true rfl) (Nat.le_of_ble_eq_true rfl) ?_
    subst hg1
    exact kRt_of rfl (congrArg (fun z => kTp a9 (kHr z z9)) (Eq.symm (if_neg (show ¬ (((g_X12_digits x 1).1 13) = 0) from b54))))
  · refine k_aload_n (i := 0) dX12_command_57 (rfl : 57 + 1 = 58) rfl rfl ?_
    refine k_iconst (v := 1) dX12_command_58 (rfl : 58 + 1 = 59) (by decide) ?_
    refine k_callVd1 cv_X12_246 ⟨Nat.le_of_ble_eq_true rfl, Nat.le_of_ble_eq_true rfl⟩ (m_X12_digits oy1.1 oy1.2.1) dX12_command_59 (rfl : 59 + 3 = 62) (Nat.le_of_ble_eq_true rfl) rfl rfl rfl ⟨Nat.le_of_ble_eq_true rfl, Nat.le_of_ble_eq_true rfl⟩ ?_
    generalize hg2 : (g_X12_digits y1 1) = y2
    have oy2 : kOk y2 := by rw [← hg2]; first | exact dg_w ok | exact dg_w (by assumption)
    refine k_istore_n (i := 2) dX12_command_62 (rfl : 62 + 1 = 63) rfl (Nat.le_of_ble_eq_true rfl) ?_
    refine k_ls (ls2 := [.ref 116, .int 2, .int (f_X12_digits y1 1), .int 0, .int (f_X12_digits x 1), .retAddr 0]) rfl ?_
    refine k_iload_n (i := 1) dX12_command_63 (rfl : 63 + 1 = 64) rfl rfl ?_
    refine k_iconst (v := 4) dX12_command_64 (rfl : 64 + 1 = 65) (by decide) ?_
    refine k_icmp_ne (tgt := 83) dX12_command_65 (rfl : 65 + 3 = 68) (by decide) (fun b65 => ?_) (fun b65 => by exact absurd b65 (by decide))
    refine k_iload_n (i := 1) dX12_command_83 (rfl : 83 + 1 = 84) rfl rfl ?_
    refine k_iconst (v := 4) dX12_command_84 (rfl : 84 + 1 = 85) (by decide) ?_
    refine k_icmp_ne (tgt := 101) dX12_command_85 (rfl : 85 + 3 = 88) (by decide) (fun b85 => ?_) (fun b85 => by exact absurd b85 (by decide))
    refine k_iload_n (i := 1) dX12_command_101 (rfl : 101 + 1 = 102) rfl rfl ?_
    refine k_bipush (v := 6) dX12_command_102 (rfl : 102 + 2 = 104) (by decide) ?_
    refine k_icmp_ne (tgt := 122) dX12_command_104 (rfl : 104 + 3 = 107) (by decide) (fun b104 => ?_) (fun b104 => by exact absurd b104 (by decide))
    refine k_aload_n (i := 0) dX12_command_122 (rfl : 122 + 1 = 123) rfl rfl ?_
    refine k_get 12 24 fg_X12_237 dX12_command_123 (rfl : 123 + 3 = 126) (Nat.le_of_ble_eq_true rfl) rfl rfl ?_
    refine k_if_ne (tgt := 136) dX12_command_126 (rfl : 126 + 3 = 129) (by decide) (fun b126 => ?_) (fun b126 => ?_)
    · refine k_vret rfl dX12_command_136 (Nat.le_of_ble_eq_true rfl) (Nat.le_of_ble_eq_true rfl) ?_
      subst hg2
      subst hg1
      exact kRt_of rfl (congrArg (fun z => kTp a9 (kHr z z9)) (Eq.symm (Eq.trans (if_pos (show ((g_X12_digits x 1).1 13) = 0 from b54)) (if_neg (show ¬ (((g_X12_digits (g_X12_digits x 1) 1).1 13) = 0) from b126)))))
    · refine k_aload_n (i := 0) dX12_command_129 (rfl : 129 + 1 = 130) rfl rfl ?_
      refine k_get 12 25 fg_X12_255 dX12_command_130 (rfl : 130 + 3 = 133) (Nat.le_of_ble_eq_true rfl) rfl rfl ?_
      refine k_if_ne (tgt := 137) dX12_command_133 (rfl : 133 + 3 = 136) (by decide) (fun b133 => ?_) (fun b133 => ?_)
      · refine k_aload_n (i := 0) dX12_command_137 (rfl : 137 + 1 = 138) rfl rfl ?_
        refine k_iload_n (i := 1) dX12_command_138 (rfl : 138 + 1 = 139) rfl rfl ?_
        refine k_iload (i := 4) dX12_command_139 (rfl : 139 + 2 = 141) rfl ?_
        refine k_iload_n (i := 2) dX12_command_141 (rfl : 141 + 1 = 142) rfl rfl ?_
        refine k_iload_n (i := 3) dX12_command_142 (rfl : 142 + 1 = 143) rfl rfl ?_
        refine k_callVd4 cv_X12_258 ⟨Nat.le_of_ble_eq_true rfl, Nat.le_of_ble_eq_true rfl⟩ (m_X12_does_2 oy2.2.2.2.1) dX12_command_143 (rfl : 143 + 3 = 146) (Nat.le_of_ble_eq_true rfl) rfl rfl rfl ⟨Nat.le_of_ble_eq_true rfl, Nat.le_of_ble_eq_true rfl⟩ ?_
        generalize hg3 : (g_X12_does_2 y2 (f_X12_digits x 1) (f_X12_digits y1 1) 0) = y3
        refine k_istore (i := 5) dX12_command_146 (rfl : 146 + 2 = 148) (Nat.le_of_ble_eq_true rfl) ?_
        refine k_ls (ls2 := [.ref 116, .int 2, .int (f_X12_digits y1 1), .int 0, .int (f_X12_digits x 1), .int (f_X12_does_2 y2 (f_X12_digits x 1) (f_X12_digits y1 1) 0)]) rfl ?_
        refine k_vret rfl dX12_command_148 (Nat.le_of_ble_eq_true rfl) (Nat.le_of_ble_eq_true rfl) ?_
        subst hg3
        subst hg2
        subst hg1
        exact kRt_of rfl (congrArg (fun z => kTp a9 (kHr z z9)) (Eq.symm (Eq.trans (if_pos (show ((g_X12_digits x 1).1 13) = 0 from b54)) (Eq.trans (if_pos (show ((g_X12_digits (g_X12_digits x 1) 1).1 13) = 0 from b126)) (if_neg (show ¬ (((g_X12_digits (g_X12_digits x 1) 1).1 14) = 0) from b133))))))
      · refine k_vret rfl dX12_command_136 (Nat.le_of_ble_eq_true rfl) (Nat.le_of_ble_eq_true rfl) ?_
        subst hg2
        subst hg1
        exact kRt_of rfl (congrArg (fun z => kTp a9 (kHr z z9)) (Eq.symm (Eq.trans (if_pos (show ((g_X12_digits x 1).1 13) = 0 from b54)) (Eq.trans (if_pos (show ((g_X12_digits (g_X12_digits x 1) 1).1 13) = 0 from b126)) (if_pos (show ((g_X12_digits (g_X12_digits x 1) 1).1 14) = 0 from b133))))))
def g_cmd_3 (x : kY) : kY := if ((g_X12_digits x 1).1 13) = 0 then (if ((g_X12_digits (g_X12_digits x 1) 1).1 13) = 0 then (if ((g_X12_digits (g_X12_digits x 1) 1).1 14) = 0 then (g_X12_digits (g_X12_digits x 1) 1) else (g_X12_does_3 (g_X12_digits (g_X12_digits x 1) 1) (f_X12_digits x 1) (f_X12_digits (g_X12_digits x 1) 1) 0)) else (g_X12_digits (g_X12_digits x 1) 1)) else (g_X12_digits x 1)
set_option maxRecDepth 100000 in
set_option maxHeartbeats 4000000 in
theorem l_cmd_3 {x : kY} {a9 : kH} {z9 : kE × kE} (ok : kOk x) : kEv kX12_command (kRm kX12_command 0 0) (kFm false 0 0 ((kRt none (kTp a9 (kHr (g_cmd_3 x) z9)) 130))) false 17 [.ref 116, .int 3, .int 0, .int 0, .retAddr 0, .retAddr 0] [] (kTp a9 (kHr x z9)) 130 0 0 := by
  refine k_aload_n (i := 0) dX12_command_17 (rfl : 17 + 1 = 18) rfl rfl ?_
  refine k_iload_n (i := 1) dX12_command_18 (rfl : 18 + 1 = 19) rfl rfl ?_
  refine k_bipush (v := 7) dX12_command_19 (rfl : 19 + 2 = 21) (by decide) ?_
  refine k_icmp_eq (tgt := 30) dX12_command_21 (rfl : 21 + 3 = 24) (by decide) (fun b21 => by exact absurd b21 (by decide)) (fun b21 => ?_)
  refine k_iload_n (i := 1) dX12_command_24 (rfl : 24 + 1 = 25) rfl rfl ?_
  refine k_bipush (v := 9) dX12_command_25 (rfl : 25 + 2 = 27) (by decide) ?_
  refine k_icmp_ne (tgt := 34) dX12_command_27 (rfl : 27 + 3 = 30) (by decide) (fun b27 => ?_) (fun b27 => by exact absurd b27 (by decide))
  refine k_iconst (v := 1) dX12_command_34 (rfl : 34 + 1 = 35) (by decide) ?_
  refine k_callVd1 cv_X12_246 ⟨Nat.le_of_ble_eq_true rfl, Nat.le_of_ble_eq_true rfl⟩ (m_X12_digits ok.1 ok.2.1) dX12_command_35 (rfl : 35 + 3 = 38) (Nat.le_of_ble_eq_true rfl) rfl rfl rfl ⟨Nat.le_of_ble_eq_true rfl, Nat.le_of_ble_eq_true rfl⟩ ?_
  generalize hg1 : (g_X12_digits x 1) = y1
  have oy1 : kOk y1 := by rw [← hg1]; first | exact dg_w ok | exact dg_w (by assumption)
  refine k_istore (i := 4) dX12_command_38 (rfl : 38 + 2 = 40) (Nat.le_of_ble_eq_true rfl) ?_
  refine k_ls (ls2 := [.ref 116, .int 3, .int 0, .int 0, .int (f_X12_digits x 1), .retAddr 0]) rfl ?_
  refine k_iload_n (i := 1) dX12_command_40 (rfl : 40 + 1 = 41) rfl rfl ?_
  refine k_iconst (v := 4) dX12_command_41 (rfl : 41 + 1 = 42) (by decide) ?_
  refine k_icmp_lt (tgt := 50) dX12_command_42 (rfl : 42 + 3 = 45) (by decide) (fun b42 => ?_) (fun b42 => by exact absurd (by decide) b42)
  refine k_aload_n (i := 0) dX12_command_50 (rfl : 50 + 1 = 51) rfl rfl ?_
  refine k_get 12 24 fg_X12_237 dX12_command_51 (rfl : 51 + 3 = 54) (Nat.le_of_ble_eq_true rfl) rfl rfl ?_
  refine k_if_ne (tgt := 63) dX12_command_54 (rfl : 54 + 3 = 57) (by decide) (fun b54 => ?_) (fun b54 => ?_)
  · refine k_iload_n (i := 1) dX12_command_63 (rfl : 63 + 1 = 64) rfl rfl ?_
    refine k_iconst (v := 4) dX12_command_64 (rfl : 64 + 1 = 65) (by decide) ?_
    refine k_icmp_ne (tgt := 83) dX12_command_65 (rfl : 65 + 3 = 68) (by decide) (fun b65 => ?_) (fun b65 => by exact absurd b65 (by decide))
    refine k_iload_n (i := 1) dX12_command_83 (rfl : 83 + 1 = 84) rfl rfl ?_
    refine k_iconst (v := 4) dX12_command_84 (rfl : 84 + 1 = 85) (by decide) ?_
    refine k_icmp_ne (tgt := 101) dX12_command_85 (rfl : 85 + 3 = 88) (by decide) (fun b85 => ?_) (fun b85 => by exact absurd b85 (by decide))
    refine k_iload_n (i := 1) dX12_command_101 (rfl : 101 + 1 = 102) rfl rfl ?_
    refine k_bipush (v := 6) dX12_command_102 (rfl : 102 + 2 = 104) (by decide) ?_
    refine k_icmp_ne (tgt := 122) dX12_command_104 (rfl : 104 + 3 = 107) (by decide) (fun b104 => ?_) (fun b104 => by exact absurd b104 (by decide))
    refine k_aload_n (i := 0) dX12_command_122 (rfl : 122 + 1 = 123) rfl rfl ?_
    refine k_get 12 24 fg_X12_237 dX12_command_123 (rfl : 123 + 3 = 126) (Nat.le_of_ble_eq_true rfl) rfl rfl ?_
    refine k_if_ne (tgt := 136) dX12_command_126 (rfl : 126 + 3 = 129) (by decide) (fun b126 => ?_) (fun b126 => by exact absurd b126 b54)
    refine k_vret rfl dX12_command_136 (Nat.le_of_ble_eq_true rfl) (Nat.le_of_ble_eq_true rfl) ?_
    subst hg1
    exact kRt_of rfl (congrArg (fun z => kTp a9 (kHr z z9)) (Eq.symm (if_neg (show ¬ (((g_X12_digits x 1).1 13) = 0) from b54))))
  · refine k_aload_n (i := 0) dX12_command_57 (rfl : 57 + 1 = 58) rfl rfl ?_
    refine k_iconst (v := 1) dX12_command_58 (rfl : 58 + 1 = 59) (by decide) ?_
    refine k_callVd1 cv_X12_246 ⟨Nat.le_of_ble_eq_true rfl, Nat.le_of_ble_eq_true rfl⟩ (m_X12_digits oy1.1 oy1.2.1) dX12_command_59 (rfl : 59 + 3 = 62) (Nat.le_of_ble_eq_true rfl) rfl rfl rfl ⟨Nat.le_of_ble_eq_true rfl, Nat.le_of_ble_eq_true rfl⟩ ?_
    generalize hg2 : (g_X12_digits y1 1) = y2
    have oy2 : kOk y2 := by rw [← hg2]; first | exact dg_w ok | exact dg_w (by assumption)
    refine k_istore_n (i := 2) dX12_command_62 (rfl : 62 + 1 = 63) rfl (Nat.le_of_ble_eq_true rfl) ?_
    refine k_ls (ls2 := [.ref 116, .int 3, .int (f_X12_digits y1 1), .int 0, .int (f_X12_digits x 1), .retAddr 0]) rfl ?_
    refine k_iload_n (i := 1) dX12_command_63 (rfl : 63 + 1 = 64) rfl rfl ?_
    refine k_iconst (v := 4) dX12_command_64 (rfl : 64 + 1 = 65) (by decide) ?_
    refine k_icmp_ne (tgt := 83) dX12_command_65 (rfl : 65 + 3 = 68) (by decide) (fun b65 => ?_) (fun b65 => by exact absurd b65 (by decide))
    refine k_iload_n (i := 1) dX12_command_83 (rfl : 83 + 1 = 84) rfl rfl ?_
    refine k_iconst (v := 4) dX12_command_84 (rfl : 84 + 1 = 85) (by decide) ?_
    refine k_icmp_ne (tgt := 101) dX12_command_85 (rfl : 85 + 3 = 88) (by decide) (fun b85 => ?_) (fun b85 => by exact absurd b85 (by decide))
    refine k_iload_n (i := 1) dX12_command_101 (rfl : 101 + 1 = 102) rfl rfl ?_
    refine k_bipush (v := 6) dX12_command_102 (rfl : 102 + 2 = 104) (by decide) ?_
    refine k_icmp_ne (tgt := 122) dX12_command_104 (rfl : 104 + 3 = 107) (by decide) (fun b104 => ?_) (fun b104 => by exact absurd b104 (by decide))
    refine k_aload_n (i := 0) dX12_command_122 (rfl : 122 + 1 = 123) rfl rfl ?_
    refine k_get 12 24 fg_X12_237 dX12_command_123 (rfl : 123 + 3 = 126) (Nat.le_of_ble_eq_true rfl) rfl rfl ?_
    refine k_if_ne (tgt := 136) dX12_command_126 (rfl : 126 + 3 = 129) (by decide) (fun b126 => ?_) (fun b126 => ?_)
    · refine k_vret rfl dX12_command_136 (Nat.le_of_ble_eq_true rfl) (Nat.le_of_ble_eq_true rfl) ?_
      subst hg2
      subst hg1
      exact kRt_of rfl (congrArg (fun z => kTp a9 (kHr z z9)) (Eq.symm (Eq.trans (if_pos (show ((g_X12_digits x 1).1 13) = 0 from b54)) (if_neg (show ¬ (((g_X12_digits (g_X12_digits x 1) 1).1 13) = 0) from b126)))))
    · refine k_aload_n (i := 0) dX12_command_129 (rfl : 129 + 1 = 130) rfl rfl ?_
      refine k_get 12 25 fg_X12_255 dX12_command_130 (rfl : 130 + 3 = 133) (Nat.le_of_ble_eq_true rfl) rfl rfl ?_
      refine k_if_ne (tgt := 137) dX12_command_133 (rfl : 133 + 3 = 136) (by decide) (fun b133 => ?_) (fun b133 => ?_)
      · refine k_aload_n (i := 0) dX12_command_137 (rfl : 137 + 1 = 138) rfl rfl ?_
        refine k_iload_n (i := 1) dX12_command_138 (rfl : 138 + 1 = 139) rfl rfl ?_
        refine k_iload (i := 4) dX12_command_139 (rfl : 139 + 2 = 141) rfl ?_
        refine k_iload_n (i := 2) dX12_command_141 (rfl : 141 + 1 = 142) rfl rfl ?_
        refine k_iload_n (i := 3) dX12_command_142 (rfl : 142 + 1 = 143) rfl rfl ?_
        refine k_callVd4 cv_X12_258 ⟨Nat.le_of_ble_eq_true rfl, Nat.le_of_ble_eq_true rfl⟩ (m_X12_does_3 oy2.2.2.2.1) dX12_command_143 (rfl : 143 + 3 = 146) (Nat.le_of_ble_eq_true rfl) rfl rfl rfl ⟨Nat.le_of_ble_eq_true rfl, Nat.le_of_ble_eq_true rfl⟩ ?_
        generalize hg3 : (g_X12_does_3 y2 (f_X12_digits x 1) (f_X12_digits y1 1) 0) = y3
        refine k_istore (i := 5) dX12_command_146 (rfl : 146 + 2 = 148) (Nat.le_of_ble_eq_true rfl) ?_
        refine k_ls (ls2 := [.ref 116, .int 3, .int (f_X12_digits y1 1), .int 0, .int (f_X12_digits x 1), .int (f_X12_does_3 y2 (f_X12_digits x 1) (f_X12_digits y1 1) 0)]) rfl ?_
        refine k_vret rfl dX12_command_148 (Nat.le_of_ble_eq_true rfl) (Nat.le_of_ble_eq_true rfl) ?_
        subst hg3
        subst hg2
        subst hg1
        exact kRt_of rfl (congrArg (fun z => kTp a9 (kHr z z9)) (Eq.symm (Eq.trans (if_pos (show ((g_X12_digits x 1).1 13) = 0 from b54)) (Eq.trans (if_pos (show ((g_X12_digits (g_X12_digits x 1) 1).1 13) = 0 from b126)) (if_neg (show ¬ (((g_X12_digits (g_X12_digits x 1) 1).1 14) = 0) from b133))))))
      · refine k_vret rfl dX12_command_136 (Nat.le_of_ble_eq_true rfl) (Nat.le_of_ble_eq_true rfl) ?_
        subst hg2
        subst hg1
        exact kRt_of rfl (congrArg (fun z => kTp a9 (kHr z z9)) (Eq.symm (Eq.trans (if_pos (show ((g_X12_digits x 1).1 13) = 0 from b54)) (Eq.trans (if_pos (show ((g_X12_digits (g_X12_digits x 1) 1).1 13) = 0 from b126)) (if_pos (show ((g_X12_digits (g_X12_digits x 1) 1).1 14) = 0 from b133))))))
def g_cmd_4 (x : kY) : kY := if ((g_X12_digits x 1).1 13) = 0 then (if ((g_X12_behind (g_X12_digits x 1) 64 1).1 13) = 0 then (if ((g_X12_digits (g_X12_behind (g_X12_digits x 1) 64 1) 1).1 13) = 0 then (if ((g_X12_digits (g_X12_behind (g_X12_digits x 1) 64 1) 1).1 14) = 0 then (g_X12_digits (g_X12_behind (g_X12_digits x 1) 64 1) 1) else (g_X12_does_4 (g_X12_digits (g_X12_behind (g_X12_digits x 1) 64 1) 1) (f_X12_digits x 1) (f_X12_behind (g_X12_digits x 1) 64 1) (f_X12_digits (g_X12_behind (g_X12_digits x 1) 64 1) 1))) else (g_X12_digits (g_X12_behind (g_X12_digits x 1) 64 1) 1)) else (g_X12_behind (g_X12_digits x 1) 64 1)) else (g_X12_digits x 1)
set_option maxRecDepth 100000 in
set_option maxHeartbeats 4000000 in
theorem l_cmd_4 {x : kY} {a9 : kH} {z9 : kE × kE} (ok : kOk x) : kEv kX12_command (kRm kX12_command 0 0) (kFm false 0 0 ((kRt none (kTp a9 (kHr (g_cmd_4 x) z9)) 130))) false 17 [.ref 116, .int 4, .int 0, .int 0, .retAddr 0, .retAddr 0] [] (kTp a9 (kHr x z9)) 130 0 0 := by
  refine k_aload_n (i := 0) dX12_command_17 (rfl : 17 + 1 = 18) rfl rfl ?_
  refine k_iload_n (i := 1) dX12_command_18 (rfl : 18 + 1 = 19) rfl rfl ?_
  refine k_bipush (v := 7) dX12_command_19 (rfl : 19 + 2 = 21) (by decide) ?_
  refine k_icmp_eq (tgt := 30) dX12_command_21 (rfl : 21 + 3 = 24) (by decide) (fun b21 => by exact absurd b21 (by decide)) (fun b21 => ?_)
  refine k_iload_n (i := 1) dX12_command_24 (rfl : 24 + 1 = 25) rfl rfl ?_
  refine k_bipush (v := 9) dX12_command_25 (rfl : 25 + 2 = 27) (by decide) ?_
  refine k_icmp_ne (tgt := 34) dX12_command_27 (rfl : 27 + 3 = 30) (by decide) (fun b27 => ?_) (fun b27 => by exact absurd b27 (by decide))
  refine k_iconst (v := 1) dX12_command_34 (rfl : 34 + 1 = 35) (by decide) ?_
  refine k_callVd1 cv_X12_246 ⟨Nat.le_of_ble_eq_true rfl, Nat.le_of_ble_eq_true rfl⟩ (m_X12_digits ok.1 ok.2.1) dX12_command_35 (rfl : 35 + 3 = 38) (Nat.le_of_ble_eq_true rfl) rfl rfl rfl ⟨Nat.le_of_ble_eq_true rfl, Nat.le_of_ble_eq_true rfl⟩ ?_
  generalize hg1 : (g_X12_digits x 1) = y1
  have oy1 : kOk y1 := by rw [← hg1]; first | exact dg_w ok | exact dg_w (by assumption)
  refine k_istore (i := 4) dX12_command_38 (rfl : 38 + 2 = 40) (Nat.le_of_ble_eq_true rfl) ?_
  refine k_ls (ls2 := [.ref 116, .int 4, .int 0, .int 0, .int (f_X12_digits x 1), .retAddr 0]) rfl ?_
  refine k_iload_n (i := 1) dX12_command_40 (rfl : 40 + 1 = 41) rfl rfl ?_
  refine k_iconst (v := 4) dX12_command_41 (rfl : 41 + 1 = 42) (by decide) ?_
  refine k_icmp_lt (tgt := 50) dX12_command_42 (rfl : 42 + 3 = 45) (by decide) (fun b42 => by exact absurd b42 (by decide)) (fun b42 => ?_)
  refine k_iload_n (i := 1) dX12_command_45 (rfl : 45 + 1 = 46) rfl rfl ?_
  refine k_iconst (v := 5) dX12_command_46 (rfl : 46 + 1 = 47) (by decide) ?_
  refine k_icmp_ne (tgt := 63) dX12_command_47 (rfl : 47 + 3 = 50) (by decide) (fun b47 => ?_) (fun b47 => by exact absurd b47 (by decide))
  refine k_iload_n (i := 1) dX12_command_63 (rfl : 63 + 1 = 64) rfl rfl ?_
  refine k_iconst (v := 4) dX12_command_64 (rfl : 64 + 1 = 65) (by decide) ?_
  refine k_icmp_ne (tgt := 83) dX12_command_65 (rfl : 65 + 3 = 68) (by decide) (fun b65 => by exact absurd (by decide) b65) (fun b65 => ?_)
  refine k_aload_n (i := 0) dX12_command_68 (rfl : 68 + 1 = 69) rfl rfl ?_
  refine k_get 12 24 fg_X12_237 dX12_command_69 (rfl : 69 + 3 = 72) (Nat.le_of_ble_eq_true rfl) rfl rfl ?_
  refine k_if_ne (tgt := 83) dX12_command_72 (rfl : 72 + 3 = 75) (by decide) (fun b72 => ?_) (fun b72 => ?_)
  · refine k_iload_n (i := 1) dX12_command_83 (rfl : 83 + 1 = 84) rfl rfl ?_
    refine k_iconst (v := 4) dX12_command_84 (rfl : 84 + 1 = 85) (by decide) ?_
    refine k_icmp_ne (tgt := 101) dX12_command_85 (rfl : 85 + 3 = 88) (by decide) (fun b85 => by exact absurd (by decide) b85) (fun b85 => ?_)
    refine k_aload_n (i := 0) dX12_command_88 (rfl : 88 + 1 = 89) rfl rfl ?_
    refine k_get 12 24 fg_X12_237 dX12_command_89 (rfl : 89 + 3 = 92) (Nat.le_of_ble_eq_true rfl) rfl rfl ?_
    refine k_if_ne (tgt := 101) dX12_command_92 (rfl : 92 + 3 = 95) (by decide) (fun b92 => ?_) (fun b92 => by exact absurd b92 b72)
    refine k_iload_n (i := 1) dX12_command_101 (rfl : 101 + 1 = 102) rfl rfl ?_
    refine k_bipush (v := 6) dX12_command_102 (rfl : 102 + 2 = 104) (by decide) ?_
    refine k_icmp_ne (tgt := 122) dX12_command_104 (rfl : 104 + 3 = 107) (by decide) (fun b104 => ?_) (fun b104 => by exact absurd b104 (by decide))
    refine k_aload_n (i := 0) dX12_command_122 (rfl : 122 + 1 = 123) rfl rfl ?_
    refine k_get 12 24 fg_X12_237 dX12_command_123 (rfl : 123 + 3 = 126) (Nat.le_of_ble_eq_true rfl) rfl rfl ?_
    refine k_if_ne (tgt := 136) dX12_command_126 (rfl : 126 + 3 = 129) (by decide) (fun b126 => ?_) (fun b126 => by exact absurd b126 b72)
    refine k_vret rfl dX12_command_136 (Nat.le_of_ble_eq_true rfl) (Nat.le_of_ble_eq_true rfl) ?_
    subst hg1
    exact kRt_of rfl (congrArg (fun z => kTp a9 (kHr z z9)) (Eq.symm (if_neg (show ¬ (((g_X12_digits x 1).1 13) = 0) from b72))))
  · refine k_aload_n (i := 0) dX12_command_75 (rfl : 75 + 1 = 76) rfl rfl ?_
    refine k_bipush (v := 64) dX12_command_76 (rfl : 76 + 2 = 78) (by decide) ?_
    refine k_iconst (v := 1) dX12_command_78 (rfl : 78 + 1 = 79) (by decide) ?_
    refine k_callVd2 cv_X12_252 ⟨Nat.le_of_ble_eq_true rfl, Nat.le_of_ble_eq_true rfl⟩ (m_X12_behind oy1.1 oy1.2.1 (by decide)) dX12_command_79 (rfl : 79 + 3 = 82) (Nat.le_of_ble_eq_true rfl) rfl rfl rfl ⟨Nat.le_of_ble_eq_true rfl, Nat.le_of_ble_eq_true rfl⟩ ?_
    generalize hg2 : (g_X12_behind y1 64 1) = y2
    have oy2 : kOk y2 := by rw [← hg2]; first | exact bh_w ok (by decide) | exact bh_w (by assumption) (by decide)
    refine k_istore_n (i := 2) dX12_command_82 (rfl : 82 + 1 = 83) rfl (Nat.le_of_ble_eq_true rfl) ?_
    refine k_ls (ls2 := [.ref 116, .int 4, .int (f_X12_behind y1 64 1), .int 0, .int (f_X12_digits x 1), .retAddr 0]) rfl ?_
    refine k_iload_n (i := 1) dX12_command_83 (rfl : 83 + 1 = 84) rfl rfl ?_
    refine k_iconst (v := 4) dX12_command_84 (rfl : 84 + 1 = 85) (by decide) ?_
    refine k_icmp_ne (tgt := 101) dX12_command_85 (rfl : 85 + 3 = 88) (by decide) (fun b85 => by exact absurd (by decide) b85) (fun b85 => ?_)
    refine k_aload_n (i := 0) dX12_command_88 (rfl : 88 + 1 = 89) rfl rfl ?_
    refine k_get 12 24 fg_X12_237 dX12_command_89 (rfl : 89 + 3 = 92) (Nat.le_of_ble_eq_true rfl) rfl rfl ?_
    refine k_if_ne (tgt := 101) dX12_command_92 (rfl : 92 + 3 = 95) (by decide) (fun b92 => ?_) (fun b92 => ?_)
    · refine k_iload_n (i := 1) dX12_command_101 (rfl : 101 + 1 = 102) rfl rfl ?_
      refine k_bipush (v := 6) dX12_command_102 (rfl : 102 + 2 = 104) (by decide) ?_
      refine k_icmp_ne (tgt := 122) dX12_command_104 (rfl : 104 + 3 = 107) (by decide) (fun b104 => ?_) (fun b104 => by exact absurd b104 (by decide))
      refine k_aload_n (i := 0) dX12_command_122 (rfl : 122 + 1 = 123) rfl rfl ?_
      refine k_get 12 24 fg_X12_237 dX12_command_123 (rfl : 123 + 3 = 126) (Nat.le_of_ble_eq_true rfl) rfl rfl ?_
      refine k_if_ne (tgt := 136) dX12_command_126 (rfl : 126 + 3 = 129) (by decide) (fun b126 => ?_) (fun b126 => by exact absurd b126 b92)
      refine k_vret rfl dX12_command_136 (Nat.le_of_ble_eq_true rfl) (Nat.le_of_ble_eq_true rfl) ?_
      subst hg2
      subst hg1
      exact kRt_of rfl (congrArg (fun z => kTp a9 (kHr z z9)) (Eq.symm (Eq.trans (if_pos (show ((g_X12_digits x 1).1 13) = 0 from b72)) (if_neg (show ¬ (((g_X12_behind (g_X12_digits x 1) 64 1).1 13) = 0) from b92)))))
    · refine k_aload_n (i := 0) dX12_command_95 (rfl : 95 + 1 = 96) rfl rfl ?_
      refine k_iconst (v := 1) dX12_command_96 (rfl : 96 + 1 = 97) (by decide) ?_
      refine k_callVd1 cv_X12_246 ⟨Nat.le_of_ble_eq_true rfl, Nat.le_of_ble_eq_true rfl⟩ (m_X12_digits oy2.1 oy2.2.1) dX12_command_97 (rfl : 97 + 3 = 100) (Nat.le_of_ble_eq_true rfl) rfl rfl rfl ⟨Nat.le_of_ble_eq_true rfl, Nat.le_of_ble_eq_true rfl⟩ ?_
      generalize hg3 : (g_X12_digits y2 1) = y3
      have oy3 : kOk y3 := by rw [← hg3]; first | exact dg_w ok | exact dg_w (by assumption)
      refine k_istore_n (i := 3) dX12_command_100 (rfl : 100 + 1 = 101) rfl (Nat.le_of_ble_eq_true rfl) ?_
      refine k_ls (ls2 := [.ref 116, .int 4, .int (f_X12_behind y1 64 1), .int (f_X12_digits y2 1), .int (f_X12_digits x 1), .retAddr 0]) rfl ?_
      refine k_iload_n (i := 1) dX12_command_101 (rfl : 101 + 1 = 102) rfl rfl ?_
      refine k_bipush (v := 6) dX12_command_102 (rfl : 102 + 2 = 104) (by decide) ?_
      refine k_icmp_ne (tgt := 122) dX12_command_104 (rfl : 104 + 3 = 107) (by decide) (fun b104 => ?_) (fun b104 => by exact absurd b104 (by decide))
      refine k_aload_n (i := 0) dX12_command_122 (rfl : 122 + 1 = 123) rfl rfl ?_
      refine k_get 12 24 fg_X12_237 dX12_command_123 (rfl : 123 + 3 = 126) (Nat.le_of_ble_eq_true rfl) rfl rfl ?_
      refine k_if_ne (tgt := 136) dX12_command_126 (rfl : 126 + 3 = 129) (by decide) (fun b126 => ?_) (fun b126 => ?_)
      · refine k_vret rfl dX12_command_136 (Nat.le_of_ble_eq_true rfl) (Nat.le_of_ble_eq_true rfl) ?_
        subst hg3
        subst hg2
        subst hg1
        exact kRt_of rfl (congrArg (fun z => kTp a9 (kHr z z9)) (Eq.symm (Eq.trans (if_pos (show ((g_X12_digits x 1).1 13) = 0 from b72)) (Eq.trans (if_pos (show ((g_X12_behind (g_X12_digits x 1) 64 1).1 13) = 0 from b92)) (if_neg (show ¬ (((g_X12_digits (g_X12_behind (g_X12_digits x 1) 64 1) 1).1 13) = 0) from b126))))))
      · refine k_aload_n (i := 0) dX12_command_129 (rfl : 129 + 1 = 130) rfl rfl ?_
        refine k_get 12 25 fg_X12_255 dX12_command_130 (rfl : 130 + 3 = 133) (Nat.le_of_ble_eq_true rfl) rfl rfl ?_
        refine k_if_ne (tgt := 137) dX12_command_133 (rfl : 133 + 3 = 136) (by decide) (fun b133 => ?_) (fun b133 => ?_)
        · refine k_aload_n (i := 0) dX12_command_137 (rfl : 137 + 1 = 138) rfl rfl ?_
          refine k_iload_n (i := 1) dX12_command_138 (rfl : 138 + 1 = 139) rfl rfl ?_
          refine k_iload (i := 4) dX12_command_139 (rfl : 139 + 2 = 141) rfl ?_
          refine k_iload_n (i := 2) dX12_command_141 (rfl : 141 + 1 = 142) rfl rfl ?_
          refine k_iload_n (i := 3) dX12_command_142 (rfl : 142 + 1 = 143) rfl rfl ?_
          refine k_callVd4 cv_X12_258 ⟨Nat.le_of_ble_eq_true rfl, Nat.le_of_ble_eq_true rfl⟩ (m_X12_does_4 oy3.2.2.2.1) dX12_command_143 (rfl : 143 + 3 = 146) (Nat.le_of_ble_eq_true rfl) rfl rfl rfl ⟨Nat.le_of_ble_eq_true rfl, Nat.le_of_ble_eq_true rfl⟩ ?_
          generalize hg4 : (g_X12_does_4 y3 (f_X12_digits x 1) (f_X12_behind y1 64 1) (f_X12_digits y2 1)) = y4
          refine k_istore (i := 5) dX12_command_146 (rfl : 146 + 2 = 148) (Nat.le_of_ble_eq_true rfl) ?_
          refine k_ls (ls2 := [.ref 116, .int 4, .int (f_X12_behind y1 64 1), .int (f_X12_digits y2 1), .int (f_X12_digits x 1), .int (f_X12_does_4 y3 (f_X12_digits x 1) (f_X12_behind y1 64 1) (f_X12_digits y2 1))]) rfl ?_
          refine k_vret rfl dX12_command_148 (Nat.le_of_ble_eq_true rfl) (Nat.le_of_ble_eq_true rfl) ?_
          subst hg4
          subst hg3
          subst hg2
          subst hg1
          exact kRt_of rfl (congrArg (fun z => kTp a9 (kHr z z9)) (Eq.symm (Eq.trans (if_pos (show ((g_X12_digits x 1).1 13) = 0 from b72)) (Eq.trans (if_pos (show ((g_X12_behind (g_X12_digits x 1) 64 1).1 13) = 0 from b92)) (Eq.trans (if_pos (show ((g_X12_digits (g_X12_behind (g_X12_digits x 1) 64 1) 1).1 13) = 0 from b126)) (if_neg (show ¬ (((g_X12_digits (g_X12_behind (g_X12_digits x 1) 64 1) 1).1 14) = 0) from b133)))))))
        · refine k_vret rfl dX12_command_136 (Nat.le_of_ble_eq_true rfl) (Nat.le_of_ble_eq_true rfl) ?_
          subst hg3
          subst hg2
          subst hg1
          exact kRt_of rfl (congrArg (fun z => kTp a9 (kHr z z9)) (Eq.symm (Eq.trans (if_pos (show ((g_X12_digits x 1).1 13) = 0 from b72)) (Eq.trans (if_pos (show ((g_X12_behind (g_X12_digits x 1) 64 1).1 13) = 0 from b92)) (Eq.trans (if_pos (show ((g_X12_digits (g_X12_behind (g_X12_digits x 1) 64 1) 1).1 13) = 0 from b126)) (if_pos (show ((g_X12_digits (g_X12_behind (g_X12_digits x 1) 64 1) 1).1 14) = 0 from b133)))))))
def g_cmd_5 (x : kY) : kY := if ((g_X12_digits x 1).1 13) = 0 then (if ((g_X12_digits (g_X12_digits x 1) 1).1 13) = 0 then (if ((g_X12_digits (g_X12_digits x 1) 1).1 14) = 0 then (g_X12_digits (g_X12_digits x 1) 1) else (g_X12_does_5 (g_X12_digits (g_X12_digits x 1) 1) (f_X12_digits x 1) (f_X12_digits (g_X12_digits x 1) 1) 0)) else (g_X12_digits (g_X12_digits x 1) 1)) else (g_X12_digits x 1)
set_option maxRecDepth 100000 in
set_option maxHeartbeats 4000000 in
theorem l_cmd_5 {x : kY} {a9 : kH} {z9 : kE × kE} (ok : kOk x) : kEv kX12_command (kRm kX12_command 0 0) (kFm false 0 0 ((kRt none (kTp a9 (kHr (g_cmd_5 x) z9)) 130))) false 17 [.ref 116, .int 5, .int 0, .int 0, .retAddr 0, .retAddr 0] [] (kTp a9 (kHr x z9)) 130 0 0 := by
  refine k_aload_n (i := 0) dX12_command_17 (rfl : 17 + 1 = 18) rfl rfl ?_
  refine k_iload_n (i := 1) dX12_command_18 (rfl : 18 + 1 = 19) rfl rfl ?_
  refine k_bipush (v := 7) dX12_command_19 (rfl : 19 + 2 = 21) (by decide) ?_
  refine k_icmp_eq (tgt := 30) dX12_command_21 (rfl : 21 + 3 = 24) (by decide) (fun b21 => by exact absurd b21 (by decide)) (fun b21 => ?_)
  refine k_iload_n (i := 1) dX12_command_24 (rfl : 24 + 1 = 25) rfl rfl ?_
  refine k_bipush (v := 9) dX12_command_25 (rfl : 25 + 2 = 27) (by decide) ?_
  refine k_icmp_ne (tgt := 34) dX12_command_27 (rfl : 27 + 3 = 30) (by decide) (fun b27 => ?_) (fun b27 => by exact absurd b27 (by decide))
  refine k_iconst (v := 1) dX12_command_34 (rfl : 34 + 1 = 35) (by decide) ?_
  refine k_callVd1 cv_X12_246 ⟨Nat.le_of_ble_eq_true rfl, Nat.le_of_ble_eq_true rfl⟩ (m_X12_digits ok.1 ok.2.1) dX12_command_35 (rfl : 35 + 3 = 38) (Nat.le_of_ble_eq_true rfl) rfl rfl rfl ⟨Nat.le_of_ble_eq_true rfl, Nat.le_of_ble_eq_true rfl⟩ ?_
  generalize hg1 : (g_X12_digits x 1) = y1
  have oy1 : kOk y1 := by rw [← hg1]; first | exact dg_w ok | exact dg_w (by assumption)
  refine k_istore (i := 4) dX12_command_38 (rfl : 38 + 2 = 40) (Nat.le_of_ble_eq_true rfl) ?_
  refine k_ls (ls2 := [.ref 116, .int 5, .int 0, .int 0, .int (f_X12_digits x 1), .retAddr 0]) rfl ?_
  refine k_iload_n (i := 1) dX12_command_40 (rfl : 40 + 1 = 41) rfl rfl ?_
  refine k_iconst (v := 4) dX12_command_41 (rfl : 41 + 1 = 42) (by decide) ?_
  refine k_icmp_lt (tgt := 50) dX12_command_42 (rfl : 42 + 3 = 45) (by decide) (fun b42 => by exact absurd b42 (by decide)) (fun b42 => ?_)
  refine k_iload_n (i := 1) dX12_command_45 (rfl : 45 + 1 = 46) rfl rfl ?_
  refine k_iconst (v := 5) dX12_command_46 (rfl : 46 + 1 = 47) (by decide) ?_
  refine k_icmp_ne (tgt := 63) dX12_command_47 (rfl : 47 + 3 = 50) (by decide) (fun b47 => by exact absurd (by decide) b47) (fun b47 => ?_)
  refine k_aload_n (i := 0) dX12_command_50 (rfl : 50 + 1 = 51) rfl rfl ?_
  refine k_get 12 24 fg_X12_237 dX12_command_51 (rfl : 51 + 3 = 54) (Nat.le_of_ble_eq_true rfl) rfl rfl ?_
  refine k_if_ne (tgt := 63) dX12_command_54 (rfl : 54 + 3 = 57) (by decide) (fun b54 => ?_) (fun b54 => ?_)
  · refine k_iload_n (i := 1) dX12_command_63 (rfl : 63 + 1 = 64) rfl rfl ?_
    refine k_iconst (v := 4) dX12_command_64 (rfl : 64 + 1 = 65) (by decide) ?_
    refine k_icmp_ne (tgt := 83) dX12_command_65 (rfl : 65 + 3 = 68) (by decide) (fun b65 => ?_) (fun b65 => by exact absurd b65 (by decide))
    refine k_iload_n (i := 1) dX12_command_83 (rfl : 83 + 1 = 84) rfl rfl ?_
    refine k_iconst (v := 4) dX12_command_84 (rfl : 84 + 1 = 85) (by decide) ?_
    refine k_icmp_ne (tgt := 101) dX12_command_85 (rfl : 85 + 3 = 88) (by decide) (fun b85 => ?_) (fun b85 => by exact absurd b85 (by decide))
    refine k_iload_n (i := 1) dX12_command_101 (rfl : 101 + 1 = 102) rfl rfl ?_
    refine k_bipush (v := 6) dX12_command_102 (rfl : 102 + 2 = 104) (by decide) ?_
    refine k_icmp_ne (tgt := 122) dX12_command_104 (rfl : 104 + 3 = 107) (by decide) (fun b104 => ?_) (fun b104 => by exact absurd b104 (by decide))
    refine k_aload_n (i := 0) dX12_command_122 (rfl : 122 + 1 = 123) rfl rfl ?_
    refine k_get 12 24 fg_X12_237 dX12_command_123 (rfl : 123 + 3 = 126) (Nat.le_of_ble_eq_true rfl) rfl rfl ?_
    refine k_if_ne (tgt := 136) dX12_command_126 (rfl : 126 + 3 = 129) (by decide) (fun b126 => ?_) (fun b126 => by exact absurd b126 b54)
    refine k_vret rfl dX12_command_136 (Nat.le_of_ble_eq_true rfl) (Nat.le_of_ble_eq_true rfl) ?_
    subst hg1
    exact kRt_of rfl (congrArg (fun z => kTp a9 (kHr z z9)) (Eq.symm (if_neg (show ¬ (((g_X12_digits x 1).1 13) = 0) from b54))))
  · refine k_aload_n (i := 0) dX12_command_57 (rfl : 57 + 1 = 58) rfl rfl ?_
    refine k_iconst (v := 1) dX12_command_58 (rfl : 58 + 1 = 59) (by decide) ?_
    refine k_callVd1 cv_X12_246 ⟨Nat.le_of_ble_eq_true rfl, Nat.le_of_ble_eq_true rfl⟩ (m_X12_digits oy1.1 oy1.2.1) dX12_command_59 (rfl : 59 + 3 = 62) (Nat.le_of_ble_eq_true rfl) rfl rfl rfl ⟨Nat.le_of_ble_eq_true rfl, Nat.le_of_ble_eq_true rfl⟩ ?_
    generalize hg2 : (g_X12_digits y1 1) = y2
    have oy2 : kOk y2 := by rw [← hg2]; first | exact dg_w ok | exact dg_w (by assumption)
    refine k_istore_n (i := 2) dX12_command_62 (rfl : 62 + 1 = 63) rfl (Nat.le_of_ble_eq_true rfl) ?_
    refine k_ls (ls2 := [.ref 116, .int 5, .int (f_X12_digits y1 1), .int 0, .int (f_X12_digits x 1), .retAddr 0]) rfl ?_
    refine k_iload_n (i := 1) dX12_command_63 (rfl : 63 + 1 = 64) rfl rfl ?_
    refine k_iconst (v := 4) dX12_command_64 (rfl : 64 + 1 = 65) (by decide) ?_
    refine k_icmp_ne (tgt := 83) dX12_command_65 (rfl : 65 + 3 = 68) (by decide) (fun b65 => ?_) (fun b65 => by exact absurd b65 (by decide))
    refine k_iload_n (i := 1) dX12_command_83 (rfl : 83 + 1 = 84) rfl rfl ?_
    refine k_iconst (v := 4) dX12_command_84 (rfl : 84 + 1 = 85) (by decide) ?_
    refine k_icmp_ne (tgt := 101) dX12_command_85 (rfl : 85 + 3 = 88) (by decide) (fun b85 => ?_) (fun b85 => by exact absurd b85 (by decide))
    refine k_iload_n (i := 1) dX12_command_101 (rfl : 101 + 1 = 102) rfl rfl ?_
    refine k_bipush (v := 6) dX12_command_102 (rfl : 102 + 2 = 104) (by decide) ?_
    refine k_icmp_ne (tgt := 122) dX12_command_104 (rfl : 104 + 3 = 107) (by decide) (fun b104 => ?_) (fun b104 => by exact absurd b104 (by decide))
    refine k_aload_n (i := 0) dX12_command_122 (rfl : 122 + 1 = 123) rfl rfl ?_
    refine k_get 12 24 fg_X12_237 dX12_command_123 (rfl : 123 + 3 = 126) (Nat.le_of_ble_eq_true rfl) rfl rfl ?_
    refine k_if_ne (tgt := 136) dX12_command_126 (rfl : 126 + 3 = 129) (by decide) (fun b126 => ?_) (fun b126 => ?_)
    · refine k_vret rfl dX12_command_136 (Nat.le_of_ble_eq_true rfl) (Nat.le_of_ble_eq_true rfl) ?_
      subst hg2
      subst hg1
      exact kRt_of rfl (congrArg (fun z => kTp a9 (kHr z z9)) (Eq.symm (Eq.trans (if_pos (show ((g_X12_digits x 1).1 13) = 0 from b54)) (if_neg (show ¬ (((g_X12_digits (g_X12_digits x 1) 1).1 13) = 0) from b126)))))
    · refine k_aload_n (i := 0) dX12_command_129 (rfl : 129 + 1 = 130) rfl rfl ?_
      refine k_get 12 25 fg_X12_255 dX12_command_130 (rfl : 130 + 3 = 133) (Nat.le_of_ble_eq_true rfl) rfl rfl ?_
      refine k_if_ne (tgt := 137) dX12_command_133 (rfl : 133 + 3 = 136) (by decide) (fun b133 => ?_) (fun b133 => ?_)
      · refine k_aload_n (i := 0) dX12_command_137 (rfl : 137 + 1 = 138) rfl rfl ?_
        refine k_iload_n (i := 1) dX12_command_138 (rfl : 138 + 1 = 139) rfl rfl ?_
        refine k_iload (i := 4) dX12_command_139 (rfl : 139 + 2 = 141) rfl ?_
        refine k_iload_n (i := 2) dX12_command_141 (rfl : 141 + 1 = 142) rfl rfl ?_
        refine k_iload_n (i := 3) dX12_command_142 (rfl : 142 + 1 = 143) rfl rfl ?_
        refine k_callVd4 cv_X12_258 ⟨Nat.le_of_ble_eq_true rfl, Nat.le_of_ble_eq_true rfl⟩ (m_X12_does_5) dX12_command_143 (rfl : 143 + 3 = 146) (Nat.le_of_ble_eq_true rfl) rfl rfl rfl ⟨Nat.le_of_ble_eq_true rfl, Nat.le_of_ble_eq_true rfl⟩ ?_
        generalize hg3 : (g_X12_does_5 y2 (f_X12_digits x 1) (f_X12_digits y1 1) 0) = y3
        refine k_istore (i := 5) dX12_command_146 (rfl : 146 + 2 = 148) (Nat.le_of_ble_eq_true rfl) ?_
        refine k_ls (ls2 := [.ref 116, .int 5, .int (f_X12_digits y1 1), .int 0, .int (f_X12_digits x 1), .int (f_X12_does_5 y2 (f_X12_digits x 1) (f_X12_digits y1 1) 0)]) rfl ?_
        refine k_vret rfl dX12_command_148 (Nat.le_of_ble_eq_true rfl) (Nat.le_of_ble_eq_true rfl) ?_
        subst hg3
        subst hg2
        subst hg1
        exact kRt_of rfl (congrArg (fun z => kTp a9 (kHr z z9)) (Eq.symm (Eq.trans (if_pos (show ((g_X12_digits x 1).1 13) = 0 from b54)) (Eq.trans (if_pos (show ((g_X12_digits (g_X12_digits x 1) 1).1 13) = 0 from b126)) (if_neg (show ¬ (((g_X12_digits (g_X12_digits x 1) 1).1 14) = 0) from b133))))))
      · refine k_vret rfl dX12_command_136 (Nat.le_of_ble_eq_true rfl) (Nat.le_of_ble_eq_true rfl) ?_
        subst hg2
        subst hg1
        exact kRt_of rfl (congrArg (fun z => kTp a9 (kHr z z9)) (Eq.symm (Eq.trans (if_pos (show ((g_X12_digits x 1).1 13) = 0 from b54)) (Eq.trans (if_pos (show ((g_X12_digits (g_X12_digits x 1) 1).1 13) = 0 from b126)) (if_pos (show ((g_X12_digits (g_X12_digits x 1) 1).1 14) = 0 from b133))))))
def g_cmd_6 (x : kY) : kY := if ((g_X12_digits x 1).1 13) = 0 then (if ((g_X12_behind (g_X12_digits x 1) 35 2).1 13) = 0 then (if ((g_X12_behind (g_X12_digits x 1) 35 2).1 14) = 0 then (g_X12_behind (g_X12_digits x 1) 35 2) else (g_X12_does_6 (g_X12_behind (g_X12_digits x 1) 35 2) (f_X12_digits x 1) (f_X12_behind (g_X12_digits x 1) 35 2) 0)) else (g_X12_behind (g_X12_digits x 1) 35 2)) else (g_X12_digits x 1)
set_option maxRecDepth 100000 in
set_option maxHeartbeats 4000000 in
theorem l_cmd_6 {x : kY} {a9 : kH} {z9 : kE × kE} (ok : kOk x) : kEv kX12_command (kRm kX12_command 0 0) (kFm false 0 0 ((kRt none (kTp a9 (kHr (g_cmd_6 x) z9)) 130))) false 17 [.ref 116, .int 6, .int 0, .int 0, .retAddr 0, .retAddr 0] [] (kTp a9 (kHr x z9)) 130 0 0 := by
  refine k_aload_n (i := 0) dX12_command_17 (rfl : 17 + 1 = 18) rfl rfl ?_
  refine k_iload_n (i := 1) dX12_command_18 (rfl : 18 + 1 = 19) rfl rfl ?_
  refine k_bipush (v := 7) dX12_command_19 (rfl : 19 + 2 = 21) (by decide) ?_
  refine k_icmp_eq (tgt := 30) dX12_command_21 (rfl : 21 + 3 = 24) (by decide) (fun b21 => by exact absurd b21 (by decide)) (fun b21 => ?_)
  refine k_iload_n (i := 1) dX12_command_24 (rfl : 24 + 1 = 25) rfl rfl ?_
  refine k_bipush (v := 9) dX12_command_25 (rfl : 25 + 2 = 27) (by decide) ?_
  refine k_icmp_ne (tgt := 34) dX12_command_27 (rfl : 27 + 3 = 30) (by decide) (fun b27 => ?_) (fun b27 => by exact absurd b27 (by decide))
  refine k_iconst (v := 1) dX12_command_34 (rfl : 34 + 1 = 35) (by decide) ?_
  refine k_callVd1 cv_X12_246 ⟨Nat.le_of_ble_eq_true rfl, Nat.le_of_ble_eq_true rfl⟩ (m_X12_digits ok.1 ok.2.1) dX12_command_35 (rfl : 35 + 3 = 38) (Nat.le_of_ble_eq_true rfl) rfl rfl rfl ⟨Nat.le_of_ble_eq_true rfl, Nat.le_of_ble_eq_true rfl⟩ ?_
  generalize hg1 : (g_X12_digits x 1) = y1
  have oy1 : kOk y1 := by rw [← hg1]; first | exact dg_w ok | exact dg_w (by assumption)
  refine k_istore (i := 4) dX12_command_38 (rfl : 38 + 2 = 40) (Nat.le_of_ble_eq_true rfl) ?_
  refine k_ls (ls2 := [.ref 116, .int 6, .int 0, .int 0, .int (f_X12_digits x 1), .retAddr 0]) rfl ?_
  refine k_iload_n (i := 1) dX12_command_40 (rfl : 40 + 1 = 41) rfl rfl ?_
  refine k_iconst (v := 4) dX12_command_41 (rfl : 41 + 1 = 42) (by decide) ?_
  refine k_icmp_lt (tgt := 50) dX12_command_42 (rfl : 42 + 3 = 45) (by decide) (fun b42 => by exact absurd b42 (by decide)) (fun b42 => ?_)
  refine k_iload_n (i := 1) dX12_command_45 (rfl : 45 + 1 = 46) rfl rfl ?_
  refine k_iconst (v := 5) dX12_command_46 (rfl : 46 + 1 = 47) (by decide) ?_
  refine k_icmp_ne (tgt := 63) dX12_command_47 (rfl : 47 + 3 = 50) (by decide) (fun b47 => ?_) (fun b47 => by exact absurd b47 (by decide))
  refine k_iload_n (i := 1) dX12_command_63 (rfl : 63 + 1 = 64) rfl rfl ?_
  refine k_iconst (v := 4) dX12_command_64 (rfl : 64 + 1 = 65) (by decide) ?_
  refine k_icmp_ne (tgt := 83) dX12_command_65 (rfl : 65 + 3 = 68) (by decide) (fun b65 => ?_) (fun b65 => by exact absurd b65 (by decide))
  refine k_iload_n (i := 1) dX12_command_83 (rfl : 83 + 1 = 84) rfl rfl ?_
  refine k_iconst (v := 4) dX12_command_84 (rfl : 84 + 1 = 85) (by decide) ?_
  refine k_icmp_ne (tgt := 101) dX12_command_85 (rfl : 85 + 3 = 88) (by decide) (fun b85 => ?_) (fun b85 => by exact absurd b85 (by decide))
  refine k_iload_n (i := 1) dX12_command_101 (rfl : 101 + 1 = 102) rfl rfl ?_
  refine k_bipush (v := 6) dX12_command_102 (rfl : 102 + 2 = 104) (by decide) ?_
  refine k_icmp_ne (tgt := 122) dX12_command_104 (rfl : 104 + 3 = 107) (by decide) (fun b104 => by exact absurd (by decide) b104) (fun b104 => ?_)
  refine k_aload_n (i := 0) dX12_command_107 (rfl : 107 + 1 = 108) rfl rfl ?_
  refine k_get 12 24 fg_X12_237 dX12_command_108 (rfl : 108 + 3 = 111) (Nat.le_of_ble_eq_true rfl) rfl rfl ?_
  refine k_if_ne (tgt := 122) dX12_command_111 (rfl : 111 + 3 = 114) (by decide) (fun b111 => ?_) (fun b111 => ?_)
  · refine k_aload_n (i := 0) dX12_command_122 (rfl : 122 + 1 = 123) rfl rfl ?_
    refine k_get 12 24 fg_X12_237 dX12_command_123 (rfl : 123 + 3 = 126) (Nat.le_of_ble_eq_true rfl) rfl rfl ?_
    refine k_if_ne (tgt := 136) dX12_command_126 (rfl : 126 + 3 = 129) (by decide) (fun b126 => ?_) (fun b126 => by exact absurd b126 b111)
    refine k_vret rfl dX12_command_136 (Nat.le_of_ble_eq_true rfl) (Nat.le_of_ble_eq_true rfl) ?_
    subst hg1
    exact kRt_of rfl (congrArg (fun z => kTp a9 (kHr z z9)) (Eq.symm (if_neg (show ¬ (((g_X12_digits x 1).1 13) = 0) from b111))))
  · refine k_aload_n (i := 0) dX12_command_114 (rfl : 114 + 1 = 115) rfl rfl ?_
    refine k_bipush (v := 35) dX12_command_115 (rfl : 115 + 2 = 117) (by decide) ?_
    refine k_iconst (v := 2) dX12_command_117 (rfl : 117 + 1 = 118) (by decide) ?_
    refine k_callVd2 cv_X12_252 ⟨Nat.le_of_ble_eq_true rfl, Nat.le_of_ble_eq_true rfl⟩ (m_X12_behind oy1.1 oy1.2.1 (by decide)) dX12_command_118 (rfl : 118 + 3 = 121) (Nat.le_of_ble_eq_true rfl) rfl rfl rfl ⟨Nat.le_of_ble_eq_true rfl, Nat.le_of_ble_eq_true rfl⟩ ?_
    generalize hg2 : (g_X12_behind y1 35 2) = y2
    have oy2 : kOk y2 := by rw [← hg2]; first | exact bh_w ok (by decide) | exact bh_w (by assumption) (by decide)
    refine k_istore_n (i := 2) dX12_command_121 (rfl : 121 + 1 = 122) rfl (Nat.le_of_ble_eq_true rfl) ?_
    refine k_ls (ls2 := [.ref 116, .int 6, .int (f_X12_behind y1 35 2), .int 0, .int (f_X12_digits x 1), .retAddr 0]) rfl ?_
    refine k_aload_n (i := 0) dX12_command_122 (rfl : 122 + 1 = 123) rfl rfl ?_
    refine k_get 12 24 fg_X12_237 dX12_command_123 (rfl : 123 + 3 = 126) (Nat.le_of_ble_eq_true rfl) rfl rfl ?_
    refine k_if_ne (tgt := 136) dX12_command_126 (rfl : 126 + 3 = 129) (by decide) (fun b126 => ?_) (fun b126 => ?_)
    · refine k_vret rfl dX12_command_136 (Nat.le_of_ble_eq_true rfl) (Nat.le_of_ble_eq_true rfl) ?_
      subst hg2
      subst hg1
      exact kRt_of rfl (congrArg (fun z => kTp a9 (kHr z z9)) (Eq.symm (Eq.trans (if_pos (show ((g_X12_digits x 1).1 13) = 0 from b111)) (if_neg (show ¬ (((g_X12_behind (g_X12_digits x 1) 35 2).1 13) = 0) from b126)))))
    · refine k_aload_n (i := 0) dX12_command_129 (rfl : 129 + 1 = 130) rfl rfl ?_
      refine k_get 12 25 fg_X12_255 dX12_command_130 (rfl : 130 + 3 = 133) (Nat.le_of_ble_eq_true rfl) rfl rfl ?_
      refine k_if_ne (tgt := 137) dX12_command_133 (rfl : 133 + 3 = 136) (by decide) (fun b133 => ?_) (fun b133 => ?_)
      · refine k_aload_n (i := 0) dX12_command_137 (rfl : 137 + 1 = 138) rfl rfl ?_
        refine k_iload_n (i := 1) dX12_command_138 (rfl : 138 + 1 = 139) rfl rfl ?_
        refine k_iload (i := 4) dX12_command_139 (rfl : 139 + 2 = 141) rfl ?_
        refine k_iload_n (i := 2) dX12_command_141 (rfl : 141 + 1 = 142) rfl rfl ?_
        refine k_iload_n (i := 3) dX12_command_142 (rfl : 142 + 1 = 143) rfl rfl ?_
        refine k_callVd4 cv_X12_258 ⟨Nat.le_of_ble_eq_true rfl, Nat.le_of_ble_eq_true rfl⟩ (m_X12_does_6 oy2.2.2.2.1 oy2.2.2.2.2) dX12_command_143 (rfl : 143 + 3 = 146) (Nat.le_of_ble_eq_true rfl) rfl rfl rfl ⟨Nat.le_of_ble_eq_true rfl, Nat.le_of_ble_eq_true rfl⟩ ?_
        generalize hg3 : (g_X12_does_6 y2 (f_X12_digits x 1) (f_X12_behind y1 35 2) 0) = y3
        refine k_istore (i := 5) dX12_command_146 (rfl : 146 + 2 = 148) (Nat.le_of_ble_eq_true rfl) ?_
        refine k_ls (ls2 := [.ref 116, .int 6, .int (f_X12_behind y1 35 2), .int 0, .int (f_X12_digits x 1), .int (f_X12_does_6 y2 (f_X12_digits x 1) (f_X12_behind y1 35 2) 0)]) rfl ?_
        refine k_vret rfl dX12_command_148 (Nat.le_of_ble_eq_true rfl) (Nat.le_of_ble_eq_true rfl) ?_
        subst hg3
        subst hg2
        subst hg1
        exact kRt_of rfl (congrArg (fun z => kTp a9 (kHr z z9)) (Eq.symm (Eq.trans (if_pos (show ((g_X12_digits x 1).1 13) = 0 from b111)) (Eq.trans (if_pos (show ((g_X12_behind (g_X12_digits x 1) 35 2).1 13) = 0 from b126)) (if_neg (show ¬ (((g_X12_behind (g_X12_digits x 1) 35 2).1 14) = 0) from b133))))))
      · refine k_vret rfl dX12_command_136 (Nat.le_of_ble_eq_true rfl) (Nat.le_of_ble_eq_true rfl) ?_
        subst hg2
        subst hg1
        exact kRt_of rfl (congrArg (fun z => kTp a9 (kHr z z9)) (Eq.symm (Eq.trans (if_pos (show ((g_X12_digits x 1).1 13) = 0 from b111)) (Eq.trans (if_pos (show ((g_X12_behind (g_X12_digits x 1) 35 2).1 13) = 0 from b126)) (if_pos (show ((g_X12_behind (g_X12_digits x 1) 35 2).1 14) = 0 from b133))))))
def g_cmd_7 (x : kY) : kY := if ((g_X12_digits x 2).1 13) = 0 then (if ((g_X12_digits x 2).1 14) = 0 then (g_X12_digits x 2) else (g_X12_does_7 (g_X12_digits x 2) (f_X12_digits x 2) 0 0)) else (g_X12_digits x 2)
set_option maxRecDepth 100000 in
set_option maxHeartbeats 4000000 in
theorem l_cmd_7 {x : kY} {a9 : kH} {z9 : kE × kE} (ok : kOk x) : kEv kX12_command (kRm kX12_command 0 0) (kFm false 0 0 ((kRt none (kTp a9 (kHr (g_cmd_7 x) z9)) 130))) false 17 [.ref 116, .int 7, .int 0, .int 0, .retAddr 0, .retAddr 0] [] (kTp a9 (kHr x z9)) 130 0 0 := by
  refine k_aload_n (i := 0) dX12_command_17 (rfl : 17 + 1 = 18) rfl rfl ?_
  refine k_iload_n (i := 1) dX12_command_18 (rfl : 18 + 1 = 19) rfl rfl ?_
  refine k_bipush (v := 7) dX12_command_19 (rfl : 19 + 2 = 21) (by decide) ?_
  refine k_icmp_eq (tgt := 30) dX12_command_21 (rfl : 21 + 3 = 24) (by decide) (fun b21 => ?_) (fun b21 => by exact absurd (by decide) b21)
  refine k_iconst (v := 2) dX12_command_30 (rfl : 30 + 1 = 31) (by decide) ?_
  refine k_goto (tgt := 35) dX12_command_31 (by decide) ?_
  refine k_callVd1 cv_X12_246 ⟨Nat.le_of_ble_eq_true rfl, Nat.le_of_ble_eq_true rfl⟩ (m_X12_digits ok.1 ok.2.1) dX12_command_35 (rfl : 35 + 3 = 38) (Nat.le_of_ble_eq_true rfl) rfl rfl rfl ⟨Nat.le_of_ble_eq_true rfl, Nat.le_of_ble_eq_true rfl⟩ ?_
  generalize hg1 : (g_X12_digits x 2) = y1
  have oy1 : kOk y1 := by rw [← hg1]; first | exact dg_w ok | exact dg_w (by assumption)
  refine k_istore (i := 4) dX12_command_38 (rfl : 38 + 2 = 40) (Nat.le_of_ble_eq_true rfl) ?_
  refine k_ls (ls2 := [.ref 116, .int 7, .int 0, .int 0, .int (f_X12_digits x 2), .retAddr 0]) rfl ?_
  refine k_iload_n (i := 1) dX12_command_40 (rfl : 40 + 1 = 41) rfl rfl ?_
  refine k_iconst (v := 4) dX12_command_41 (rfl : 41 + 1 = 42) (by decide) ?_
  refine k_icmp_lt (tgt := 50) dX12_command_42 (rfl : 42 + 3 = 45) (by decide) (fun b42 => by exact absurd b42 (by decide)) (fun b42 => ?_)
  refine k_iload_n (i := 1) dX12_command_45 (rfl : 45 + 1 = 46) rfl rfl ?_
  refine k_iconst (v := 5) dX12_command_46 (rfl : 46 + 1 = 47) (by decide) ?_
  refine k_icmp_ne (tgt := 63) dX12_command_47 (rfl : 47 + 3 = 50) (by decide) (fun b47 => ?_) (fun b47 => by exact absurd b47 (by decide))
  refine k_iload_n (i := 1) dX12_command_63 (rfl : 63 + 1 = 64) rfl rfl ?_
  refine k_iconst (v := 4) dX12_command_64 (rfl : 64 + 1 = 65) (by decide) ?_
  refine k_icmp_ne (tgt := 83) dX12_command_65 (rfl : 65 + 3 = 68) (by decide) (fun b65 => ?_) (fun b65 => by exact absurd b65 (by decide))
  refine k_iload_n (i := 1) dX12_command_83 (rfl : 83 + 1 = 84) rfl rfl ?_
  refine k_iconst (v := 4) dX12_command_84 (rfl : 84 + 1 = 85) (by decide) ?_
  refine k_icmp_ne (tgt := 101) dX12_command_85 (rfl : 85 + 3 = 88) (by decide) (fun b85 => ?_) (fun b85 => by exact absurd b85 (by decide))
  refine k_iload_n (i := 1) dX12_command_101 (rfl : 101 + 1 = 102) rfl rfl ?_
  refine k_bipush (v := 6) dX12_command_102 (rfl : 102 + 2 = 104) (by decide) ?_
  refine k_icmp_ne (tgt := 122) dX12_command_104 (rfl : 104 + 3 = 107) (by decide) (fun b104 => ?_) (fun b104 => by exact absurd b104 (by decide))
  refine k_aload_n (i := 0) dX12_command_122 (rfl : 122 + 1 = 123) rfl rfl ?_
  refine k_get 12 24 fg_X12_237 dX12_command_123 (rfl : 123 + 3 = 126) (Nat.le_of_ble_eq_true rfl) rfl rfl ?_
  refine k_if_ne (tgt := 136) dX12_command_126 (rfl : 126 + 3 = 129) (by decide) (fun b126 => ?_) (fun b126 => ?_)
  · refine k_vret rfl dX12_command_136 (Nat.le_of_ble_eq_true rfl) (Nat.le_of_ble_eq_true rfl) ?_
    subst hg1
    exact kRt_of rfl (congrArg (fun z => kTp a9 (kHr z z9)) (Eq.symm (if_neg (show ¬ (((g_X12_digits x 2).1 13) = 0) from b126))))
  · refine k_aload_n (i := 0) dX12_command_129 (rfl : 129 + 1 = 130) rfl rfl ?_
    refine k_get 12 25 fg_X12_255 dX12_command_130 (rfl : 130 + 3 = 133) (Nat.le_of_ble_eq_true rfl) rfl rfl ?_
    refine k_if_ne (tgt := 137) dX12_command_133 (rfl : 133 + 3 = 136) (by decide) (fun b133 => ?_) (fun b133 => ?_)
    · refine k_aload_n (i := 0) dX12_command_137 (rfl : 137 + 1 = 138) rfl rfl ?_
      refine k_iload_n (i := 1) dX12_command_138 (rfl : 138 + 1 = 139) rfl rfl ?_
      refine k_iload (i := 4) dX12_command_139 (rfl : 139 + 2 = 141) rfl ?_
      refine k_iload_n (i := 2) dX12_command_141 (rfl : 141 + 1 = 142) rfl rfl ?_
      refine k_iload_n (i := 3) dX12_command_142 (rfl : 142 + 1 = 143) rfl rfl ?_
      refine k_callVd4 cv_X12_258 ⟨Nat.le_of_ble_eq_true rfl, Nat.le_of_ble_eq_true rfl⟩ (m_X12_does_7) dX12_command_143 (rfl : 143 + 3 = 146) (Nat.le_of_ble_eq_true rfl) rfl rfl rfl ⟨Nat.le_of_ble_eq_true rfl, Nat.le_of_ble_eq_true rfl⟩ ?_
      generalize hg2 : (g_X12_does_7 y1 (f_X12_digits x 2) 0 0) = y2
      refine k_istore (i := 5) dX12_command_146 (rfl : 146 + 2 = 148) (Nat.le_of_ble_eq_true rfl) ?_
      refine k_ls (ls2 := [.ref 116, .int 7, .int 0, .int 0, .int (f_X12_digits x 2), .int (f_X12_does_7 y1 (f_X12_digits x 2) 0 0)]) rfl ?_
      refine k_vret rfl dX12_command_148 (Nat.le_of_ble_eq_true rfl) (Nat.le_of_ble_eq_true rfl) ?_
      subst hg2
      subst hg1
      exact kRt_of rfl (congrArg (fun z => kTp a9 (kHr z z9)) (Eq.symm (Eq.trans (if_pos (show ((g_X12_digits x 2).1 13) = 0 from b126)) (if_neg (show ¬ (((g_X12_digits x 2).1 14) = 0) from b133)))))
    · refine k_vret rfl dX12_command_136 (Nat.le_of_ble_eq_true rfl) (Nat.le_of_ble_eq_true rfl) ?_
      subst hg1
      exact kRt_of rfl (congrArg (fun z => kTp a9 (kHr z z9)) (Eq.symm (Eq.trans (if_pos (show ((g_X12_digits x 2).1 13) = 0 from b126)) (if_pos (show ((g_X12_digits x 2).1 14) = 0 from b133)))))
def g_cmd_8 (x : kY) : kY := if ((g_X12_digits x 1).1 13) = 0 then (if ((g_X12_digits x 1).1 14) = 0 then (g_X12_digits x 1) else (g_X12_does_8 (g_X12_digits x 1) (f_X12_digits x 1) 0 0)) else (g_X12_digits x 1)
set_option maxRecDepth 100000 in
set_option maxHeartbeats 4000000 in
theorem l_cmd_8 {x : kY} {a9 : kH} {z9 : kE × kE} (ok : kOk x) : kEv kX12_command (kRm kX12_command 0 0) (kFm false 0 0 ((kRt none (kTp a9 (kHr (g_cmd_8 x) z9)) 130))) false 17 [.ref 116, .int 8, .int 0, .int 0, .retAddr 0, .retAddr 0] [] (kTp a9 (kHr x z9)) 130 0 0 := by
  refine k_aload_n (i := 0) dX12_command_17 (rfl : 17 + 1 = 18) rfl rfl ?_
  refine k_iload_n (i := 1) dX12_command_18 (rfl : 18 + 1 = 19) rfl rfl ?_
  refine k_bipush (v := 7) dX12_command_19 (rfl : 19 + 2 = 21) (by decide) ?_
  refine k_icmp_eq (tgt := 30) dX12_command_21 (rfl : 21 + 3 = 24) (by decide) (fun b21 => by exact absurd b21 (by decide)) (fun b21 => ?_)
  refine k_iload_n (i := 1) dX12_command_24 (rfl : 24 + 1 = 25) rfl rfl ?_
  refine k_bipush (v := 9) dX12_command_25 (rfl : 25 + 2 = 27) (by decide) ?_
  refine k_icmp_ne (tgt := 34) dX12_command_27 (rfl : 27 + 3 = 30) (by decide) (fun b27 => ?_) (fun b27 => by exact absurd b27 (by decide))
  refine k_iconst (v := 1) dX12_command_34 (rfl : 34 + 1 = 35) (by decide) ?_
  refine k_callVd1 cv_X12_246 ⟨Nat.le_of_ble_eq_true rfl, Nat.le_of_ble_eq_true rfl⟩ (m_X12_digits ok.1 ok.2.1) dX12_command_35 (rfl : 35 + 3 = 38) (Nat.le_of_ble_eq_true rfl) rfl rfl rfl ⟨Nat.le_of_ble_eq_true rfl, Nat.le_of_ble_eq_true rfl⟩ ?_
  generalize hg1 : (g_X12_digits x 1) = y1
  have oy1 : kOk y1 := by rw [← hg1]; first | exact dg_w ok | exact dg_w (by assumption)
  refine k_istore (i := 4) dX12_command_38 (rfl : 38 + 2 = 40) (Nat.le_of_ble_eq_true rfl) ?_
  refine k_ls (ls2 := [.ref 116, .int 8, .int 0, .int 0, .int (f_X12_digits x 1), .retAddr 0]) rfl ?_
  refine k_iload_n (i := 1) dX12_command_40 (rfl : 40 + 1 = 41) rfl rfl ?_
  refine k_iconst (v := 4) dX12_command_41 (rfl : 41 + 1 = 42) (by decide) ?_
  refine k_icmp_lt (tgt := 50) dX12_command_42 (rfl : 42 + 3 = 45) (by decide) (fun b42 => by exact absurd b42 (by decide)) (fun b42 => ?_)
  refine k_iload_n (i := 1) dX12_command_45 (rfl : 45 + 1 = 46) rfl rfl ?_
  refine k_iconst (v := 5) dX12_command_46 (rfl : 46 + 1 = 47) (by decide) ?_
  refine k_icmp_ne (tgt := 63) dX12_command_47 (rfl : 47 + 3 = 50) (by decide) (fun b47 => ?_) (fun b47 => by exact absurd b47 (by decide))
  refine k_iload_n (i := 1) dX12_command_63 (rfl : 63 + 1 = 64) rfl rfl ?_
  refine k_iconst (v := 4) dX12_command_64 (rfl : 64 + 1 = 65) (by decide) ?_
  refine k_icmp_ne (tgt := 83) dX12_command_65 (rfl : 65 + 3 = 68) (by decide) (fun b65 => ?_) (fun b65 => by exact absurd b65 (by decide))
  refine k_iload_n (i := 1) dX12_command_83 (rfl : 83 + 1 = 84) rfl rfl ?_
  refine k_iconst (v := 4) dX12_command_84 (rfl : 84 + 1 = 85) (by decide) ?_
  refine k_icmp_ne (tgt := 101) dX12_command_85 (rfl : 85 + 3 = 88) (by decide) (fun b85 => ?_) (fun b85 => by exact absurd b85 (by decide))
  refine k_iload_n (i := 1) dX12_command_101 (rfl : 101 + 1 = 102) rfl rfl ?_
  refine k_bipush (v := 6) dX12_command_102 (rfl : 102 + 2 = 104) (by decide) ?_
  refine k_icmp_ne (tgt := 122) dX12_command_104 (rfl : 104 + 3 = 107) (by decide) (fun b104 => ?_) (fun b104 => by exact absurd b104 (by decide))
  refine k_aload_n (i := 0) dX12_command_122 (rfl : 122 + 1 = 123) rfl rfl ?_
  refine k_get 12 24 fg_X12_237 dX12_command_123 (rfl : 123 + 3 = 126) (Nat.le_of_ble_eq_true rfl) rfl rfl ?_
  refine k_if_ne (tgt := 136) dX12_command_126 (rfl : 126 + 3 = 129) (by decide) (fun b126 => ?_) (fun b126 => ?_)
  · refine k_vret rfl dX12_command_136 (Nat.le_of_ble_eq_true rfl) (Nat.le_of_ble_eq_true rfl) ?_
    subst hg1
    exact kRt_of rfl (congrArg (fun z => kTp a9 (kHr z z9)) (Eq.symm (if_neg (show ¬ (((g_X12_digits x 1).1 13) = 0) from b126))))
  · refine k_aload_n (i := 0) dX12_command_129 (rfl : 129 + 1 = 130) rfl rfl ?_
    refine k_get 12 25 fg_X12_255 dX12_command_130 (rfl : 130 + 3 = 133) (Nat.le_of_ble_eq_true rfl) rfl rfl ?_
    refine k_if_ne (tgt := 137) dX12_command_133 (rfl : 133 + 3 = 136) (by decide) (fun b133 => ?_) (fun b133 => ?_)
    · refine k_aload_n (i := 0) dX12_command_137 (rfl : 137 + 1 = 138) rfl rfl ?_
      refine k_iload_n (i := 1) dX12_command_138 (rfl : 138 + 1 = 139) rfl rfl ?_
      refine k_iload (i := 4) dX12_command_139 (rfl : 139 + 2 = 141) rfl ?_
      refine k_iload_n (i := 2) dX12_command_141 (rfl : 141 + 1 = 142) rfl rfl ?_
      refine k_iload_n (i := 3) dX12_command_142 (rfl : 142 + 1 = 143) rfl rfl ?_
      refine k_callVd4 cv_X12_258 ⟨Nat.le_of_ble_eq_true rfl, Nat.le_of_ble_eq_true rfl⟩ (m_X12_does_8 oy1.2.2.2.1) dX12_command_143 (rfl : 143 + 3 = 146) (Nat.le_of_ble_eq_true rfl) rfl rfl rfl ⟨Nat.le_of_ble_eq_true rfl, Nat.le_of_ble_eq_true rfl⟩ ?_
      generalize hg2 : (g_X12_does_8 y1 (f_X12_digits x 1) 0 0) = y2
      refine k_istore (i := 5) dX12_command_146 (rfl : 146 + 2 = 148) (Nat.le_of_ble_eq_true rfl) ?_
      refine k_ls (ls2 := [.ref 116, .int 8, .int 0, .int 0, .int (f_X12_digits x 1), .int (f_X12_does_8 y1 (f_X12_digits x 1) 0 0)]) rfl ?_
      refine k_vret rfl dX12_command_148 (Nat.le_of_ble_eq_true rfl) (Nat.le_of_ble_eq_true rfl) ?_
      subst hg2
      subst hg1
      exact kRt_of rfl (congrArg (fun z => kTp a9 (kHr z z9)) (Eq.symm (Eq.trans (if_pos (show ((g_X12_digits x 1).1 13) = 0 from b126)) (if_neg (show ¬ (((g_X12_digits x 1).1 14) = 0) from b133)))))
    · refine k_vret rfl dX12_command_136 (Nat.le_of_ble_eq_true rfl) (Nat.le_of_ble_eq_true rfl) ?_
      subst hg1
      exact kRt_of rfl (congrArg (fun z => kTp a9 (kHr z z9)) (Eq.symm (Eq.trans (if_pos (show ((g_X12_digits x 1).1 13) = 0 from b126)) (if_pos (show ((g_X12_digits x 1).1 14) = 0 from b133)))))
def g_cmd_9 (x : kY) : kY := if ((g_X12_digits x 2).1 13) = 0 then (if ((g_X12_digits x 2).1 14) = 0 then (g_X12_digits x 2) else (g_X12_does_9 (g_X12_digits x 2) (f_X12_digits x 2) 0 0)) else (g_X12_digits x 2)
set_option maxRecDepth 100000 in
set_option maxHeartbeats 4000000 in
theorem l_cmd_9 {x : kY} {a9 : kH} {z9 : kE × kE} (ok : kOk x) : kEv kX12_command (kRm kX12_command 0 0) (kFm false 0 0 ((kRt none (kTp a9 (kHr (g_cmd_9 x) z9)) 130))) false 17 [.ref 116, .int 9, .int 0, .int 0, .retAddr 0, .retAddr 0] [] (kTp a9 (kHr x z9)) 130 0 0 := by
  refine k_aload_n (i := 0) dX12_command_17 (rfl : 17 + 1 = 18) rfl rfl ?_
  refine k_iload_n (i := 1) dX12_command_18 (rfl : 18 + 1 = 19) rfl rfl ?_
  refine k_bipush (v := 7) dX12_command_19 (rfl : 19 + 2 = 21) (by decide) ?_
  refine k_icmp_eq (tgt := 30) dX12_command_21 (rfl : 21 + 3 = 24) (by decide) (fun b21 => by exact absurd b21 (by decide)) (fun b21 => ?_)
  refine k_iload_n (i := 1) dX12_command_24 (rfl : 24 + 1 = 25) rfl rfl ?_
  refine k_bipush (v := 9) dX12_command_25 (rfl : 25 + 2 = 27) (by decide) ?_
  refine k_icmp_ne (tgt := 34) dX12_command_27 (rfl : 27 + 3 = 30) (by decide) (fun b27 => by exact absurd (by decide) b27) (fun b27 => ?_)
  refine k_iconst (v := 2) dX12_command_30 (rfl : 30 + 1 = 31) (by decide) ?_
  refine k_goto (tgt := 35) dX12_command_31 (by decide) ?_
  refine k_callVd1 cv_X12_246 ⟨Nat.le_of_ble_eq_true rfl, Nat.le_of_ble_eq_true rfl⟩ (m_X12_digits ok.1 ok.2.1) dX12_command_35 (rfl : 35 + 3 = 38) (Nat.le_of_ble_eq_true rfl) rfl rfl rfl ⟨Nat.le_of_ble_eq_true rfl, Nat.le_of_ble_eq_true rfl⟩ ?_
  generalize hg1 : (g_X12_digits x 2) = y1
  have oy1 : kOk y1 := by rw [← hg1]; first | exact dg_w ok | exact dg_w (by assumption)
  refine k_istore (i := 4) dX12_command_38 (rfl : 38 + 2 = 40) (Nat.le_of_ble_eq_true rfl) ?_
  refine k_ls (ls2 := [.ref 116, .int 9, .int 0, .int 0, .int (f_X12_digits x 2), .retAddr 0]) rfl ?_
  refine k_iload_n (i := 1) dX12_command_40 (rfl : 40 + 1 = 41) rfl rfl ?_
  refine k_iconst (v := 4) dX12_command_41 (rfl : 41 + 1 = 42) (by decide) ?_
  refine k_icmp_lt (tgt := 50) dX12_command_42 (rfl : 42 + 3 = 45) (by decide) (fun b42 => by exact absurd b42 (by decide)) (fun b42 => ?_)
  refine k_iload_n (i := 1) dX12_command_45 (rfl : 45 + 1 = 46) rfl rfl ?_
  refine k_iconst (v := 5) dX12_command_46 (rfl : 46 + 1 = 47) (by decide) ?_
  refine k_icmp_ne (tgt := 63) dX12_command_47 (rfl : 47 + 3 = 50) (by decide) (fun b47 => ?_) (fun b47 => by exact absurd b47 (by decide))
  refine k_iload_n (i := 1) dX12_command_63 (rfl : 63 + 1 = 64) rfl rfl ?_
  refine k_iconst (v := 4) dX12_command_64 (rfl : 64 + 1 = 65) (by decide) ?_
  refine k_icmp_ne (tgt := 83) dX12_command_65 (rfl : 65 + 3 = 68) (by decide) (fun b65 => ?_) (fun b65 => by exact absurd b65 (by decide))
  refine k_iload_n (i := 1) dX12_command_83 (rfl : 83 + 1 = 84) rfl rfl ?_
  refine k_iconst (v := 4) dX12_command_84 (rfl : 84 + 1 = 85) (by decide) ?_
  refine k_icmp_ne (tgt := 101) dX12_command_85 (rfl : 85 + 3 = 88) (by decide) (fun b85 => ?_) (fun b85 => by exact absurd b85 (by decide))
  refine k_iload_n (i := 1) dX12_command_101 (rfl : 101 + 1 = 102) rfl rfl ?_
  refine k_bipush (v := 6) dX12_command_102 (rfl : 102 + 2 = 104) (by decide) ?_
  refine k_icmp_ne (tgt := 122) dX12_command_104 (rfl : 104 + 3 = 107) (by decide) (fun b104 => ?_) (fun b104 => by exact absurd b104 (by decide))
  refine k_aload_n (i := 0) dX12_command_122 (rfl : 122 + 1 = 123) rfl rfl ?_
  refine k_get 12 24 fg_X12_237 dX12_command_123 (rfl : 123 + 3 = 126) (Nat.le_of_ble_eq_true rfl) rfl rfl ?_
  refine k_if_ne (tgt := 136) dX12_command_126 (rfl : 126 + 3 = 129) (by decide) (fun b126 => ?_) (fun b126 => ?_)
  · refine k_vret rfl dX12_command_136 (Nat.le_of_ble_eq_true rfl) (Nat.le_of_ble_eq_true rfl) ?_
    subst hg1
    exact kRt_of rfl (congrArg (fun z => kTp a9 (kHr z z9)) (Eq.symm (if_neg (show ¬ (((g_X12_digits x 2).1 13) = 0) from b126))))
  · refine k_aload_n (i := 0) dX12_command_129 (rfl : 129 + 1 = 130) rfl rfl ?_
    refine k_get 12 25 fg_X12_255 dX12_command_130 (rfl : 130 + 3 = 133) (Nat.le_of_ble_eq_true rfl) rfl rfl ?_
    refine k_if_ne (tgt := 137) dX12_command_133 (rfl : 133 + 3 = 136) (by decide) (fun b133 => ?_) (fun b133 => ?_)
    · refine k_aload_n (i := 0) dX12_command_137 (rfl : 137 + 1 = 138) rfl rfl ?_
      refine k_iload_n (i := 1) dX12_command_138 (rfl : 138 + 1 = 139) rfl rfl ?_
      refine k_iload (i := 4) dX12_command_139 (rfl : 139 + 2 = 141) rfl ?_
      refine k_iload_n (i := 2) dX12_command_141 (rfl : 141 + 1 = 142) rfl rfl ?_
      refine k_iload_n (i := 3) dX12_command_142 (rfl : 142 + 1 = 143) rfl rfl ?_
      refine k_callVd4 cv_X12_258 ⟨Nat.le_of_ble_eq_true rfl, Nat.le_of_ble_eq_true rfl⟩ (m_X12_does_9 oy1.2.2.2.1) dX12_command_143 (rfl : 143 + 3 = 146) (Nat.le_of_ble_eq_true rfl) rfl rfl rfl ⟨Nat.le_of_ble_eq_true rfl, Nat.le_of_ble_eq_true rfl⟩ ?_
      generalize hg2 : (g_X12_does_9 y1 (f_X12_digits x 2) 0 0) = y2
      refine k_istore (i := 5) dX12_command_146 (rfl : 146 + 2 = 148) (Nat.le_of_ble_eq_true rfl) ?_
      refine k_ls (ls2 := [.ref 116, .int 9, .int 0, .int 0, .int (f_X12_digits x 2), .int (f_X12_does_9 y1 (f_X12_digits x 2) 0 0)]) rfl ?_
      refine k_vret rfl dX12_command_148 (Nat.le_of_ble_eq_true rfl) (Nat.le_of_ble_eq_true rfl) ?_
      subst hg2
      subst hg1
      exact kRt_of rfl (congrArg (fun z => kTp a9 (kHr z z9)) (Eq.symm (Eq.trans (if_pos (show ((g_X12_digits x 2).1 13) = 0 from b126)) (if_neg (show ¬ (((g_X12_digits x 2).1 14) = 0) from b133)))))
    · refine k_vret rfl dX12_command_136 (Nat.le_of_ble_eq_true rfl) (Nat.le_of_ble_eq_true rfl) ?_
      subst hg1
      exact kRt_of rfl (congrArg (fun z => kTp a9 (kHr z z9)) (Eq.symm (Eq.trans (if_pos (show ((g_X12_digits x 2).1 13) = 0 from b126)) (if_pos (show ((g_X12_digits x 2).1 14) = 0 from b133)))))
