/-! THE FIRST STATES ARE RELATED. -/
theorem vS_9 {q : Nat} (h : 9 ≤ q) : vS 261888 q = 0 := by
  unfold vS
  rw [if_neg (by omega), if_neg (by omega), if_neg (by omega)]
theorem RI0 : RI 0 c00 (vS 261888) := by
  have nP0 : nP (vS 261888) = 0 := by decide
  have nL0 : nL (vS 261888) = 0 := by decide
  refine ⟨⟨?_, ?_, ⟨fun p hp => ?_, fun p _ _ => rfl⟩, fun l hl => ?_, ?_⟩, ⟨⟨0, by omega, rfl⟩, ⟨0, by omega, rfl⟩, ⟨0, by omega, rfl⟩, ⟨0, by omega, rfl⟩, ⟨0, by omega, rfl⟩, ⟨0, by omega, rfl⟩, ⟨10, by omega, rfl⟩, ⟨0, 0, Nat.le_refl _, Nat.le_refl _, rfl, rfl⟩, ⟨0, by omega, rfl⟩⟩, fun p hp => ⟨0, by omega, vS_9 (by omega)⟩, ⟨by decide, fun p hp => ?_⟩, ⟨fun l hl => ⟨⟨0, by omega, vS_9 (by omega)⟩, ⟨0, by omega, vS_9 (by omega)⟩, ⟨0, by omega, vS_9 (by omega)⟩⟩, fun l hl => ?_⟩⟩
  · have d : ∀ k, k < 15 → ¬ (9 ≤ k ∧ k < 12) → c00.2.1 k = vS 261888 (ixK k) := by decide
    exact d
  · intro q hq
    show vS 261888 (12 + q) = if tb 0 q = true then 1 else 0
    rw [tb_0, vS_9 (by omega)]
    rfl
  · rw [nP0] at hp; omega
  · rw [nL0] at hl; omega
  · show (50 : Int32) = 50 + 0 - 0 - 0
    decide
  · rw [nP0] at hp; omega
  · rw [nL0] at hl; omega
theorem RX00 : RX 0 x00 y00 := by
  have v0 : vp_in (0 : Int32) 8 := vp_in_iff.mpr (by decide)
  have v3 : vp_in (0 : Int32) 33 := vp_in_iff.mpr (by decide)
  exact ⟨RI0, ⟨0, 0, by omega, by omega, rfl, rfl, rfl, fun i hi => absurd hi (Nat.not_lt_zero i)⟩, ⟨rfl, Or.inl rfl, fun h => absurd rfl h⟩, ⟨rfl, rfl⟩, ⟨⟨rfl, Or.inl rfl⟩, ⟨rfl, Or.inl rfl⟩⟩, ⟨0, by omega, rfl, rfl, fun j hj => absurd hj (Nat.not_lt_zero j)⟩, ⟨0, by omega, rfl, rfl, fun j hj => absurd hj (Nat.not_lt_zero j)⟩, ⟨fun j _ => rfl, ⟨fun j _ => Or.inr v0, fun j _ => Or.inr v3, fun j _ => Or.inr v0, fun i _ => v0⟩, ⟨fun j hj => rfl, fun q hq => rfl⟩⟩⟩
/-! from the entry to the loop -/
theorem nw_L_8 : kNw RL 8 11 14 [.null, .null, .null, .null, .null, .null, .null, .null, .null, .int 0, .int 0, .int 0, .int 0, .int 0] := ⟨RX11, TX11, tyX11, rfl, inX11, tyX11_ok, (gm 122 (by decide +kernel) (by decide +kernel)), (gm 123 (by decide +kernel) (by decide +kernel)), (gm 88 (by decide +kernel) (by decide +kernel)), fun j hj => match j, hj with | 0, _ => rfl | 1, _ => rfl | 2, _ => rfl | 3, _ => rfl | 4, _ => rfl | 5, _ => rfl | 6, _ => rfl | 7, _ => rfl | 8, _ => rfl | 9, _ => rfl | 10, _ => rfl | 11, _ => rfl | 12, _ => rfl | 13, _ => rfl, fun _ => rfl⟩
theorem nw_L_152 : kNw RL 152 12 26 [.int 0, .int 0, .int 0, .int 0, .int 0, .int 0, .int 0, .null, .null, .null, .null, .null, .null, .int 0, .int 0, .null, .null, .null, .null, .null, .int 0, .int 0, .int 0, .int 0, .int 0, .int 0] := ⟨RX12, TX12, tyX12, rfl, inX12, tyX12_ok, (gm 1403 (by decide +kernel) (by decide +kernel)), (gm 1404 (by decide +kernel) (by decide +kernel)), (gm 98 (by decide +kernel) (by decide +kernel)), al_s (n := 25) (al_s (n := 24) (al_s (n := 23) (al_s (n := 22) (al_s (n := 21) (al_s (n := 20) (al_s (n := 19) (al_s (n := 18) (al_s (n := 17) (al_s (n := 16) (al_s (n := 15) (al_s (n := 14) (al_s (n := 13) (al_s (n := 12) (al_s (n := 11) (al_s (n := 10) (al_s (n := 9) (al_s (n := 8) (al_s (n := 7) (al_s (n := 6) (al_s (n := 5) (al_s (n := 4) (al_s (n := 3) (al_s (n := 2) (al_s (n := 1) (al_s (n := 0) (al_z) rfl) rfl) rfl) rfl) rfl) rfl) rfl) rfl) rfl) rfl) rfl) rfl) rfl) rfl) rfl) rfl) rfl) rfl) rfl) rfl) rfl) rfl) rfl) rfl) rfl) rfl, fun _ => rfl⟩
theorem hX12_lo {h : kH} {i : Nat} (hi : i < 116) : hX12 h i = h i := by
  unfold hX12
  repeat rw [kU_n (by omega)]
section LST
variable {K : kM} {R : Room} {F : kFn} {pc pc' : Nat} {ls st : List Value} {h : kH} {N cs ss : Nat}
theorem k_newL {n9 : Int32} {N' : Nat} (hd : decode K.2.1 pc = .ok (.newarray .long, 2)) (hp : pc + 2 = pc') (hN : N < 500) (hn : ¬ n9 < 0) (hN' : n9.toNatClampNeg = N') (hb : N' * componentBytes .long ≤ 536870912) (hcs : cs + 1 ≤ R.cells ∧ ss + N' ≤ R.slots)
    (kk : kEv K R F true pc' ls (.ref N :: st) (kU h N (kJ N' (fun _ => 0))) (N + 1) (cs + 1) (ss + N')) : kEv K R F true pc ls (.int n9 :: st) h N cs ss :=
  k_newa (at0 := .long) (ty := .long) (t := 2) (a0 := (N', .inr (.inl (fun _ => 0)))) rfl rfl (fun C q => by cases q) (gm 1926 (by decide +kernel) (by decide +kernel)) (fun cA => vp_cell_l cA N' _) (fun _ => rfl) hd hp hN hn hN' hb hcs kk
theorem k_newD {n9 : Int32} {N' : Nat} (hd : decode K.2.1 pc = .ok (.newarray .double, 2)) (hp : pc + 2 = pc') (hN : N < 500) (hn : ¬ n9 < 0) (hN' : n9.toNatClampNeg = N') (hb : N' * componentBytes .double ≤ 536870912) (hcs : cs + 1 ≤ R.cells ∧ ss + N' ≤ R.slots)
    (kk : kEv K R F true pc' ls (.ref N :: st) (kU h N (kDb N' (fun _ => 0))) (N + 1) (cs + 1) (ss + N')) : kEv K R F true pc ls (.int n9 :: st) h N cs ss :=
  k_newa (at0 := .double) (ty := .double) (t := 3) (a0 := (N', .inr (.inr (.inr (.inl (fun _ => 0)))))) rfl rfl (fun C q => by cases q) (gm 1927 (by decide +kernel) (by decide +kernel)) (fun cA => vp_cell_d cA N' _) (fun _ => rfl) hd hp hN hn hN' hb hcs kk
end LST
set_option maxRecDepth 100000 in
set_option maxHeartbeats 4000000 in
theorem law_entry {nm : String} {tb : List (Nat × Nat × Nat × Nat)} {b L : Nat} {xs : Nat → Int32} (hL : L ≤ 2048) {h : kH} : kEv (kLw nm tb) RW (FL b L xs) true 0 [.ref 2000, .retAddr 0, .retAddr 0, .retAddr 0, .retAddr 0, .retAddr 0, .retAddr 0, .retAddr 0, .retAddr 0] [] h 0 0 0 := by
  refine k_new nw_L_8 dL_law_0 (rfl : 0 + 3 = 3) (by omega) ⟨Nat.le_of_ble_eq_true rfl, Nat.le_of_ble_eq_true rfl⟩ ?_
  refine k_dup dL_law_3 (rfl : 3 + 1 = 4) rfl ?_
  refine k_callIv0 cv_L_151 ⟨Nat.le_of_ble_eq_true rfl, Nat.le_of_ble_eq_true rfl⟩ (m_X11_init kU_s) dL_law_4 (rfl : 4 + 3 = 7) rfl ⟨Nat.le_of_ble_eq_true rfl, Nat.le_of_ble_eq_true rfl⟩ ?_
  have e1 : ∀ i, i < 116 → hX11 (kU h 0 (kO 11 [.null, .null, .null, .null, .null, .null, .null, .null, .null, .int 0, .int 0, .int 0, .int 0, .int 0])) i = kHc x00 i := hX11_is
  revert e1
  generalize hX11 (kU h 0 (kO 11 [.null, .null, .null, .null, .null, .null, .null, .null, .null, .int 0, .int 0, .int 0, .int 0, .int 0])) = h1
  intro e1
  refine k_astore_n (i := 1) dL_law_7 (rfl : 7 + 1 = 8) rfl (Nat.le_of_ble_eq_true rfl) ?_
  refine k_ls (ls2 := [.ref 2000, .ref 0, .retAddr 0, .retAddr 0, .retAddr 0, .retAddr 0, .retAddr 0, .retAddr 0, .retAddr 0]) rfl ?_
  refine k_new nw_L_152 dL_law_8 (rfl : 8 + 3 = 11) (by omega) ⟨Nat.le_of_ble_eq_true rfl, Nat.le_of_ble_eq_true rfl⟩ ?_
  refine k_dup dL_law_11 (rfl : 11 + 1 = 12) rfl ?_
  refine k_callIv0 cv_L_154 ⟨Nat.le_of_ble_eq_true rfl, Nat.le_of_ble_eq_true rfl⟩ (m_X12_init kU_s) dL_law_12 (rfl : 12 + 3 = 15) rfl ⟨Nat.le_of_ble_eq_true rfl, Nat.le_of_ble_eq_true rfl⟩ ?_
  have e2 : ∀ i, i < 116 → hX12 (kU h1 116 (kO 12 [.int 0, .int 0, .int 0, .int 0, .int 0, .int 0, .int 0, .null, .null, .null, .null, .null, .null, .int 0, .int 0, .null, .null, .null, .null, .null, .int 0, .int 0, .int 0, .int 0, .int 0, .int 0])) i = kHc x00 i := fun i hi => (hX12_lo hi).trans ((kU_n (by omega)).trans (e1 i hi))
  have e3 : ∀ (z : kE × kE) (i : Nat), 116 ≤ i → i < 128 → kEq (hX12 (kU h1 116 (kO 12 [.int 0, .int 0, .int 0, .int 0, .int 0, .int 0, .int 0, .null, .null, .null, .null, .null, .null, .int 0, .int 0, .null, .null, .null, .null, .null, .int 0, .int 0, .int 0, .int 0, .int 0, .int 0])) i) (kHr y00 z i) := fun z => hX12_is
  revert e2 e3
  generalize hX12 (kU h1 116 (kO 12 [.int 0, .int 0, .int 0, .int 0, .int 0, .int 0, .int 0, .null, .null, .null, .null, .null, .null, .int 0, .int 0, .null, .null, .null, .null, .null, .int 0, .int 0, .int 0, .int 0, .int 0, .int 0])) = h2
  intro e2 e3
  refine k_astore_n (i := 2) dL_law_15 (rfl : 15 + 1 = 16) rfl (Nat.le_of_ble_eq_true rfl) ?_
  refine k_ls (ls2 := [.ref 2000, .ref 0, .ref 116, .retAddr 0, .retAddr 0, .retAddr 0, .retAddr 0, .retAddr 0, .retAddr 0]) rfl ?_
  refine k_iconst (v := 1) dL_law_16 (rfl : 16 + 1 = 17) (by decide) ?_
  refine k_newL (n9 := 1) (N' := 1) dL_law_17 (rfl : 17 + 2 = 19) (by omega) (by decide) (by decide) (by decide) ⟨Nat.le_of_ble_eq_true rfl, Nat.le_of_ble_eq_true rfl⟩ ?_
  refine k_astore_n (i := 3) dL_law_19 (rfl : 19 + 1 = 20) rfl (Nat.le_of_ble_eq_true rfl) ?_
  refine k_ls (ls2 := [.ref 2000, .ref 0, .ref 116, .ref 128, .retAddr 0, .retAddr 0, .retAddr 0, .retAddr 0, .retAddr 0]) rfl ?_
  refine k_iconst (v := 1) dL_law_20 (rfl : 20 + 1 = 21) (by decide) ?_
  refine k_newD (n9 := 1) (N' := 1) dL_law_21 (rfl : 21 + 2 = 23) (by omega) (by decide) (by decide) (by decide) ⟨Nat.le_of_ble_eq_true rfl, Nat.le_of_ble_eq_true rfl⟩ ?_
  refine k_astore (i := 4) dL_law_23 (rfl : 23 + 2 = 25) (Nat.le_of_ble_eq_true rfl) ?_
  refine k_ls (ls2 := [.ref 2000, .ref 0, .ref 116, .ref 128, .ref 129, .retAddr 0, .retAddr 0, .retAddr 0, .retAddr 0]) rfl ?_
  refine k_iconst (v := 0) dL_law_25 (rfl : 25 + 1 = 26) (by decide) ?_
  refine k_istore (i := 5) dL_law_26 (rfl : 26 + 2 = 28) (Nat.le_of_ble_eq_true rfl) ?_
  refine k_ls (ls2 := [.ref 2000, .ref 0, .ref 116, .ref 128, .ref 129, .int (nI (4 * 0)), .retAddr 0, .retAddr 0, .retAddr 0]) rfl ?_
  refine k_mu (k_alike (h' := h4 x00 y00 (fun _ => 0) (fun _ => 0)) (fun i hi => ?_) (law_loop hL (k := 513) (n := 0) (by omega) (by omega) RX00 (Nat.le_of_ble_eq_true rfl) (Nat.le_of_ble_eq_true rfl)))
  show kEq _ (cond (Nat.blt i 116) (kHc x00 i) (kHr y00 (kJ 1 (fun _ => 0), kDb 1 (fun _ => 0)) i))
  by_cases c1 : i < 116
  · rw [show Nat.blt i 116 = true from blt_t c1, kU_n (by omega), kU_n (by omega), e2 i c1]
    exact Or.inl rfl
  · rw [show Nat.blt i 116 = false from blt_f (by omega)]
    by_cases c2 : i < 128
    · rw [kU_n (by omega), kU_n (by omega)]
      exact e3 _ i (by omega) c2
    · have c3 : i = 128 ∨ i = 129 := by omega
      rcases c3 with rfl | rfl
      · rw [kU_n (by omega), kU_s]
        exact Or.inl rfl
      · rw [kU_s]
        exact Or.inl rfl
