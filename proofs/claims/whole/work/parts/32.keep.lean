/-- only what was refused changes -/
def kKp (x y : kK) : Prop := y.1 = x.1 ∧ (∀ k, k ≠ 9 → k ≠ 10 → y.2.1 k = x.2.1 k) ∧ y.2.2 = x.2.2
theorem kKp_r {x : kK} : kKp x x := ⟨rfl, fun _ _ _ => rfl, rfl⟩
theorem kKp_t {x y z : kK} (h1 : kKp x y) (h2 : kKp y z) : kKp x z := ⟨h2.1.trans h1.1, fun k a b => (h2.2.1 k a b).trans (h1.2.1 k a b), h2.2.2.trans h1.2.2⟩
theorem kp_refuse {x : kK} {a b : Int32} : kKp x (g_X11_refuse x a b) := ⟨rfl, fun k h9 h10 => (if_neg h10).trans (if_neg h9), rfl⟩
theorem kp_refuseTreeIn {x : kK} {a : Int32} : kKp x (g_X11_refuseTreeIn x a) := by
  unfold g_X11_refuseTreeIn
  split
  · exact kKp_r
  · exact kp_refuse
theorem kp_refusePartyIn {x : kK} {a : Int32} : kKp x (g_X11_refusePartyIn x a) := by
  unfold g_X11_refusePartyIn
  split
  · exact kKp_r
  · exact kp_refuse
theorem kp_refuseBenchIn {x : kK} {a : Int32} : kKp x (g_X11_refuseBenchIn x a) := by
  unfold g_X11_refuseBenchIn
  split
  · exact kp_refuse
  · exact kKp_r
theorem kp_refuseAnythingIn {x : kK} {a : Int32} : kKp x (g_X11_refuseAnythingIn x a) := by
  unfold g_X11_refuseAnythingIn
  by_cases h1 : f_X11_refuseTreeIn x a = 0
  · rw [if_pos h1]
    by_cases h2 : f_X11_refusePartyIn (g_X11_refuseTreeIn x a) a = 0
    · rw [if_pos h2]; exact kKp_t (kKp_t kp_refuseTreeIn kp_refusePartyIn) kp_refuseBenchIn
    · rw [if_neg h2]; exact kKp_t kp_refuseTreeIn kp_refusePartyIn
  · rw [if_neg h1, if_neg h1]; exact kp_refuseTreeIn
theorem kp_checkTree {x : kK} {a b c : Int32} : kKp x (g_X11_checkTree x a b c) := by
  unfold g_X11_checkTree
  repeat' split
  all_goals first
    | exact kKp_r
    | exact kp_refusePartyIn
    | exact kKp_t kp_refusePartyIn kp_refuseBenchIn
theorem kp_checkBench {x : kK} {a b : Int32} : kKp x (g_X11_checkBench x a b) := by
  unfold g_X11_checkBench
  by_cases h1 : f_X11_isCell a b = 0
  · rw [if_pos h1]; exact kKp_r
  · rw [if_neg h1]
    by_cases h2 : f_X11_refuseTreeIn x (f_X11_cellAt a b) = 0
    · rw [if_pos h2]; exact kKp_t kp_refuseTreeIn kp_refusePartyIn
    · rw [if_neg h2]; exact kp_refuseTreeIn
theorem kp_checkNewParty {x : kK} {a b : Int32} : kKp x (g_X11_checkNewParty x a b) := by
  unfold g_X11_checkNewParty
  repeat' split
  all_goals first
    | exact kKp_r
    | exact kp_refuseAnythingIn
theorem kp_checkMove {x : kK} {a b c : Int32} : kKp x (g_X11_checkMove x a b c) := by
  unfold g_X11_checkMove
  repeat' split
  all_goals first
    | exact kKp_r
    | exact kp_refuseAnythingIn
theorem kp_checkSummons {x : kK} {a b : Int32} : kKp x (g_X11_checkSummons x a b) := by
  unfold g_X11_checkSummons
  repeat' split
  all_goals first
    | exact kKp_r
    | exact kp_refuse
theorem kp_checkHearing {x : kK} {a : Int32} : kKp x (g_X11_checkHearing x a) := by
  unfold g_X11_checkHearing
  repeat' split
  all_goals first
    | exact kKp_r
    | exact kp_refuse
/-- what isn't refused changes nothing -/
theorem fz_refuse {x : kK} {a b : Int32} : ¬ f_X11_refuse x a b = 0 := by unfold f_X11_refuse; decide
theorem fz_tree {x : kK} {a : Int32} (h : f_X11_refuseTreeIn x a = 0) : g_X11_refuseTreeIn x a = x := by
  unfold f_X11_refuseTreeIn at h
  unfold g_X11_refuseTreeIn
  split
  · rfl
  · rename_i q; rw [if_neg q] at h; exact absurd h fz_refuse
theorem fz_party {x : kK} {a : Int32} (h : f_X11_refusePartyIn x a = 0) : g_X11_refusePartyIn x a = x := by
  unfold f_X11_refusePartyIn at h
  unfold g_X11_refusePartyIn
  split
  · rfl
  · rename_i q; rw [if_neg q] at h; exact absurd h fz_refuse
theorem fz_bench {x : kK} {a : Int32} (h : f_X11_refuseBenchIn x a = 0) : g_X11_refuseBenchIn x a = x := by
  unfold f_X11_refuseBenchIn at h
  unfold g_X11_refuseBenchIn
  split
  · rename_i q; rw [if_pos q] at h; exact absurd h fz_refuse
  · rfl
theorem fz_any {x : kK} {a : Int32} (h : f_X11_refuseAnythingIn x a = 0) : g_X11_refuseAnythingIn x a = x ∧ f_X11_refuseTreeIn x a = 0 ∧ f_X11_refusePartyIn x a = 0 ∧ f_X11_refuseBenchIn x a = 0 := by
  unfold f_X11_refuseAnythingIn at h
  unfold g_X11_refuseAnythingIn
  by_cases h1 : f_X11_refuseTreeIn x a = 0
  · rw [if_pos h1] at h ⊢
    rw [fz_tree h1] at h ⊢
    by_cases h2 : f_X11_refusePartyIn x a = 0
    · rw [if_pos h2] at h ⊢
      rw [fz_party h2] at h ⊢
      exact ⟨fz_bench h, h1, h2, h⟩
    · rw [if_neg h2] at h; exact absurd h h2
  · rw [if_neg h1, if_neg h1] at h; exact absurd h h1
theorem cell_ok {a b : Int32} (h : ¬ f_X11_isCell a b = 0) : ∃ i j : Nat, i < 8 ∧ j < 8 ∧ a = nI i ∧ b = nI j := by
  unfold f_X11_isCell at h
  by_cases h1 : a < 0
  · rw [if_pos h1] at h; exact absurd rfl h
  rw [if_neg h1] at h
  by_cases h2 : 8 ≤ a
  · rw [if_pos h2] at h; exact absurd rfl h
  rw [if_neg h2] at h
  by_cases h3 : b < 0
  · rw [if_pos h3] at h; exact absurd rfl h
  rw [if_neg h3] at h
  by_cases h4 : 8 ≤ b
  · rw [if_pos h4] at h; exact absurd rfl h
  obtain ⟨i, hi, rfl⟩ := nI_of h1
  obtain ⟨j, hj, rfl⟩ := nI_of h3
  refine ⟨i, j, ?_, ?_, rfl, rfl⟩
  · rcases Nat.lt_or_ge i 8 with q | q
    · exact q
    · exact absurd (nI_le (a := 8) (b := i) q (by omega)) h2
  · rcases Nat.lt_or_ge j 8 with q | q
    · exact q
    · exact absurd (nI_le (a := 8) (b := j) q (by omega)) h4
theorem cellAt_nI {i j : Nat} (hi : i < 8) (hj : j < 8) : f_X11_cellAt (nI i) (nI j) = nI (8 * j + i) := by
  have h : ∀ i, i < 8 → ∀ j, j < 8 → f_X11_cellAt (nI i) (nI j) = nI (8 * j + i) := by decide
  exact h i hi j hj
theorem lt_nI {a : Int32} {n : Nat} (h1 : ¬ a < 0) (h2 : ¬ nI n ≤ a) (hn : n < 2 ^ 31) : ∃ i, i < n ∧ a = nI i := by
  obtain ⟨i, hi, rfl⟩ := nI_of h1
  refine ⟨i, ?_, rfl⟩
  rcases Nat.lt_or_ge i n with q | q
  · exact q
  · exact absurd (nI_le (a := n) (b := i) q (by omega)) h2
/-- what each check says when it lets a command pass -/
theorem ok_tree {x : kK} {a b c : Int32} (h : f_X11_checkTree x a b c = 0) : g_X11_checkTree x a b c = x ∧ (∃ i j : Nat, i < 8 ∧ j < 8 ∧ a = nI i ∧ b = nI j) ∧ (c = 0 ∨ f_X11_refusePartyIn x (f_X11_cellAt a b) = 0 ∧ f_X11_refuseBenchIn x (f_X11_cellAt a b) = 0) := by
  unfold f_X11_checkTree at h
  unfold g_X11_checkTree
  by_cases h1 : f_X11_isCell a b = 0
  · rw [if_pos h1] at h; exact absurd h (by decide)
  rw [if_neg h1] at h ⊢
  by_cases h2 : c = 0
  · rw [if_pos h2]; exact ⟨rfl, cell_ok h1, Or.inl h2⟩
  rw [if_neg h2] at h ⊢
  by_cases h3 : f_X11_refusePartyIn x (f_X11_cellAt a b) = 0
  · rw [if_pos h3] at h ⊢
    rw [fz_party h3] at h ⊢
    exact ⟨fz_bench h, cell_ok h1, Or.inr ⟨h3, h⟩⟩
  · rw [if_neg h3] at h; exact absurd h h3
theorem ok_bench {x : kK} {a b : Int32} (h : f_X11_checkBench x a b = 0) : g_X11_checkBench x a b = x ∧ (∃ i j : Nat, i < 8 ∧ j < 8 ∧ a = nI i ∧ b = nI j) ∧ f_X11_refuseTreeIn x (f_X11_cellAt a b) = 0 ∧ f_X11_refusePartyIn x (f_X11_cellAt a b) = 0 := by
  unfold f_X11_checkBench at h
  unfold g_X11_checkBench
  by_cases h1 : f_X11_isCell a b = 0
  · rw [if_pos h1] at h; exact absurd h (by decide)
  rw [if_neg h1] at h ⊢
  by_cases h3 : f_X11_refuseTreeIn x (f_X11_cellAt a b) = 0
  · rw [if_pos h3] at h ⊢
    rw [fz_tree h3] at h ⊢
    exact ⟨fz_party h, cell_ok h1, h3, h⟩
  · rw [if_neg h3] at h; exact absurd h h3
theorem ok_newParty {x : kK} {a b : Int32} (h : f_X11_checkNewParty x a b = 0) : g_X11_checkNewParty x a b = x ∧ (∃ i j : Nat, i < 8 ∧ j < 8 ∧ a = nI i ∧ b = nI j) ∧ (x.1 0).2.1 3 < 8 ∧ f_X11_refuseAnythingIn x (f_X11_cellAt a b) = 0 := by
  unfold f_X11_checkNewParty at h
  unfold g_X11_checkNewParty
  by_cases h1 : f_X11_isCell a b = 0
  · rw [if_pos h1] at h; exact absurd h (by decide)
  rw [if_neg h1] at h ⊢
  by_cases h3 : (x.1 0).2.1 3 < 8
  · rw [if_pos h3] at h ⊢
    exact ⟨(fz_any h).1, cell_ok h1, h3, h⟩
  · rw [if_neg h3] at h; exact absurd h (by decide)
theorem ok_move {x : kK} {a b c : Int32} (iv : kIv (x.1 0)) (h : f_X11_checkMove x a b c = 0) : g_X11_checkMove x a b c = x ∧ vp_in a 8 ∧ (∃ i j : Nat, i < 8 ∧ j < 8 ∧ b = nI i ∧ c = nI j) ∧ (0 ≤ a ∧ a < (x.1 0).2.1 3) ∧ ((x.1 0).2.2 0 (Int32.toNatClampNeg a) = f_X11_cellAt b c ∨ f_X11_refuseAnythingIn x (f_X11_cellAt b c) = 0) := by
  unfold f_X11_checkMove at h
  unfold g_X11_checkMove
  by_cases h1 : b2i (decide (0 ≤ a ∧ a < (x.1 0).2.1 3)) = 0
  · rw [if_pos h1] at h; exact absurd h (by decide)
  rw [if_neg h1] at h ⊢
  by_cases h2 : f_X11_isCell b c = 0
  · rw [if_pos h2] at h; exact absurd h (by decide)
  rw [if_neg h2] at h ⊢
  by_cases h3 : (x.1 0).2.2 0 (Int32.toNatClampNeg a) = f_X11_cellAt b c
  · rw [if_pos h3]
    exact ⟨rfl, kIv_pa iv h1, cell_ok h2, b2i_ne h1, Or.inl h3⟩
  · rw [if_neg h3] at h ⊢
    exact ⟨(fz_any h).1, kIv_pa iv h1, cell_ok h2, b2i_ne h1, Or.inr h⟩
theorem cm_f {x : kK} {a b c : Int32} (iv : kIv (x.1 0)) (h : ¬ f_X11_checkMove x a b c = 1) : vp_in a 8 := by
  unfold f_X11_checkMove at h
  by_cases h1 : b2i (decide (0 ≤ a ∧ a < (x.1 0).2.1 3)) = 0
  · rw [if_pos h1] at h; exact absurd rfl h
  · exact kIv_pa iv h1
theorem cs_f {x : kK} {a b : Int32} (iv : kIv (x.1 0)) (h : ¬ f_X11_checkSummons x a b = 1) (h2 : ¬ f_X11_checkSummons x a b = 2) : ¬ f_X11_isThrow b = 0 ∧ vp_in a 8 := by
  unfold f_X11_checkSummons at h h2
  by_cases h1 : b2i (decide (0 ≤ a ∧ a < (x.1 0).2.1 3)) = 0
  · rw [if_pos h1] at h; exact absurd rfl h
  rw [if_neg h1] at h h2
  by_cases h3 : f_X11_isThrow b = 0
  · rw [if_pos h3] at h2; exact absurd rfl h2
  exact ⟨h3, kIv_pa iv h1⟩
theorem ok_summons {x : kK} {a b : Int32} (iv : kIv (x.1 0)) (h : f_X11_checkSummons x a b = 0) : g_X11_checkSummons x a b = x ∧ ¬ f_X11_isThrow b = 0 ∧ vp_in a 8 ∧ (0 ≤ a ∧ a < (x.1 0).2.1 3) ∧ 0 < (x.1 0).2.1 7 ∧ pFind ((x.1 0).2.2 1) a (Int32.toNatClampNeg ((x.1 0).2.1 6)) 0 = (-1) := by
  have h9 := cs_f iv (show ¬ f_X11_checkSummons x a b = 1 by rw [h]; decide) (by rw [h]; decide)
  unfold f_X11_checkSummons at h
  unfold g_X11_checkSummons
  by_cases h1 : b2i (decide (0 ≤ a ∧ a < (x.1 0).2.1 3)) = 0
  · rw [if_pos h1] at h; exact absurd h (by decide)
  rw [if_neg h1] at h ⊢
  rw [if_neg h9.1] at h ⊢
  by_cases h3 : 0 < (x.1 0).2.1 7
  · rw [if_pos h3] at h ⊢
    by_cases h4 : pFind ((x.1 0).2.2 1) a (Int32.toNatClampNeg ((x.1 0).2.1 6)) 0 = (-1)
    · rw [if_pos h4]
      exact ⟨rfl, h9.1, h9.2, b2i_ne h1, h3, h4⟩
    · rw [if_neg h4] at h; exact absurd h fz_refuse
  · rw [if_neg h3] at h; exact absurd h fz_refuse
theorem ch_f {x : kK} {a : Int32} (h : ¬ f_X11_checkHearing x a = 1) : ¬ f_X3_hasPlea x a = 0 := by
  intro h1
  unfold f_X11_checkHearing at h
  rw [if_pos h1] at h
  exact h rfl
theorem hp_eq {x y : kK} {a : Int32} (h : y.1 0 = x.1 0) : f_X3_hasPlea y a = f_X3_hasPlea x a := by unfold f_X3_hasPlea; rw [h]
theorem ok_hearing {x : kK} {a : Int32} (h : f_X11_checkHearing x a = 0) : g_X11_checkHearing x a = x ∧ ¬ f_X3_hasPlea x a = 0 ∧ ¬ f_X3_sitsAt x ((x.1 0).2.1 4) = 0 ∧ (x.1 0).2.2 2 (Int32.toNatClampNeg a) - (x.1 0).2.1 4 ≤ 0 := by
  have h9 := ch_f (show ¬ f_X11_checkHearing x a = 1 by rw [h]; decide)
  unfold f_X11_checkHearing at h
  unfold g_X11_checkHearing
  rw [if_neg h9] at h ⊢
  by_cases h3 : f_X3_sitsAt x ((x.1 0).2.1 4) = 0
  · rw [if_pos h3] at h; exact absurd h fz_refuse
  rw [if_neg h3] at h ⊢
  by_cases h4 : (x.1 0).2.2 2 (Int32.toNatClampNeg a) - (x.1 0).2.1 4 ≤ 0
  · rw [if_pos h4]
    exact ⟨rfl, h9, h3, h4⟩
  · rw [if_neg h4] at h; exact absurd h fz_refuse
theorem ok_wind {a b : Int32} (h : f_X11_checkWind a b = 0) : (∃ i, i < 8 ∧ a = nI i) ∧ ∃ j, j ≤ 3 ∧ b = nI j := by
  unfold f_X11_checkWind at h
  by_cases h1 : a < 0
  · rw [if_pos h1] at h
    exfalso
    revert h
    repeat' split
    all_goals decide
  rw [if_neg h1] at h
  by_cases h2 : 8 ≤ a
  · rw [if_pos h2] at h
    exfalso
    revert h
    repeat' split
    all_goals decide
  rw [if_neg h2] at h
  by_cases h3 : b < 0
  · rw [if_pos h3] at h; exact absurd h (by decide)
  rw [if_neg h3] at h
  by_cases h4 : 3 < b
  · rw [if_pos h4] at h; exact absurd h (by decide)
  refine ⟨lt_nI (n := 8) h1 h2 (by decide), ?_⟩
  obtain ⟨j, hj, rfl⟩ := nI_of h3
  refine ⟨j, ?_, rfl⟩
  rcases Nat.lt_or_ge 3 j with q | q
  · exact absurd (nI_lt (a := 3) (b := j) q (by omega)) h4
  · exact q
theorem ok_pass {a : Int32} (h : f_X11_checkPassing a = 0) : ∃ n, 1 ≤ n ∧ n ≤ 48 ∧ a = nI n := by
  unfold f_X11_checkPassing at h
  by_cases h1 : a < 1
  · rw [if_pos h1] at h; exact absurd h (by decide)
  rw [if_neg h1] at h
  by_cases h2 : 48 < a
  · rw [if_pos h2] at h; exact absurd h (by decide)
  have h0 : ¬ a < 0 := by
    simp only [Int32.lt_iff_toInt_lt] at *
    have e1 : (1 : Int32).toInt = 1 := by decide
    have e0 : (0 : Int32).toInt = 0 := by decide
    omega
  obtain ⟨n, hn, rfl⟩ := nI_of h0
  refine ⟨n, ?_, ?_, rfl⟩
  · rcases Nat.lt_or_ge n 1 with q | q
    · exact absurd (nI_lt (a := n) (b := 1) q (by decide)) h1
    · exact q
  · rcases Nat.lt_or_ge 48 n with q | q
    · exact absurd (nI_lt (a := 48) (b := n) q (by omega)) h2
    · exact q
theorem ok_buy {x : kK} {a : Int32} (h : f_X11_checkPurchase x a = 0) : (∃ n, 1 ≤ n ∧ n ≤ 20 ∧ a = nI n) ∧ 2 * a ≤ (x.1 0).2.1 8 := by
  unfold f_X11_checkPurchase at h
  by_cases h1 : a < 1
  · rw [if_pos h1] at h; exact absurd h (by decide)
  rw [if_neg h1] at h
  by_cases h2 : a ≤ 20
  · rw [if_pos h2] at h
    by_cases h3 : 2 * a ≤ (x.1 0).2.1 8
    · refine ⟨?_, h3⟩
      have h0 : ¬ a < 0 := by
        simp only [Int32.lt_iff_toInt_lt] at *
        have e1 : (1 : Int32).toInt = 1 := by decide
        have e0 : (0 : Int32).toInt = 0 := by decide
        omega
      obtain ⟨n, hn, rfl⟩ := nI_of h0
      refine ⟨n, ?_, ?_, rfl⟩
      · rcases Nat.lt_or_ge n 1 with q | q
        · exact absurd (nI_lt (a := n) (b := 1) q (by decide)) h1
        · exact q
      · rcases Nat.lt_or_ge 20 n with q | q
        · exact absurd h2 (nI_ge (a := 20) (b := n) q (by omega))
        · exact q
    · rw [if_neg h3] at h; exact absurd h (by decide)
  · rw [if_neg h2] at h; exact absurd h (by decide)
/-- the changes keep what a court is -/
theorem iv_plant {x : kK} {a b c : Int32} (iv : kIv (x.1 0)) : kIv ((g_X11_plant x a b c).1 0) := by
  refine kIv_same (fun k hk => ?_) iv
  unfold g_X11_plant
  split <;> rfl
theorem nS_0 {x : kK} {k : Nat} {v : Int32} {j : Nat} : ((nS x k v).1 0).2.1 j = upd (x.1 0).2.1 k v j := rfl
theorem iv_place {x : kK} {a b : Int32} (iv : kIv (x.1 0)) (h : ∃ i j : Nat, i < 8 ∧ j < 8 ∧ a = nI i ∧ b = nI j) : kIv ((g_X11_placeBench x a b).1 0) := by
  obtain ⟨i, j, hi, hj, rfl, rfl⟩ := h
  obtain ⟨i0, i1, i2, i3, i4⟩ := iv
  unfold g_X11_placeBench
  refine ⟨by rw [nS_n (by decide)]; exact i0, by rw [nS_n (by decide)]; exact i1, ⟨8 * j + i, by omega, ?_⟩, by rw [nS_n (by decide)]; exact i3, by rw [nS_n (by decide)]; exact i4⟩
  rw [nS_s]
  exact cellAt_nI hi hj
theorem iv_wind {x : kK} {a b : Int32} (iv : kIv (x.1 0)) (h : (∃ i, i < 8 ∧ a = nI i) ∧ ∃ j, j ≤ 3 ∧ b = nI j) : kIv ((g_X11_turnWind x a b).1 0) := by
  obtain ⟨⟨i, hi, rfl⟩, j, hj, rfl⟩ := h
  obtain ⟨i0, i1, i2, i3, i4⟩ := iv
  unfold g_X11_turnWind
  refine ⟨by rw [nS_n (by decide), nS_n (by decide)]; exact i0, by rw [nS_n (by decide), nS_n (by decide)]; exact i1, by rw [nS_n (by decide), nS_n (by decide)]; exact i2, ⟨i, hi, ?_⟩, ⟨j, hj, ?_⟩⟩
  · rw [nS_n (by decide), nS_s]
  · rw [nS_s]
theorem iv_seat {x : kK} {a b : Int32} (iv : kIv (x.1 0)) : kIv ((g_X11_seatParty x a b).1 0) := by
  unfold g_X11_seatParty
  split
  · exact iv
  · rename_i h
    obtain ⟨i0, i1, i2, i3, i4⟩ := iv
    obtain ⟨n, hn, e⟩ := i0
    refine ⟨⟨n + 1, ?_, ?_⟩, by rw [nS_n (by decide)]; exact i1, by rw [nS_n (by decide)]; exact i2, by rw [nS_n (by decide)]; exact i3, by rw [nS_n (by decide)]; exact i4⟩
    · rw [e] at h
      rcases Nat.lt_or_ge n 8 with q | q
      · omega
      · exact absurd (nI_le (a := 8) (b := n) q (by omega)) h
    · rw [nS_s, e, nI_1]
theorem iv_shift {x : kK} {a b c : Int32} (iv : kIv (x.1 0)) : kIv ((g_X11_shiftParty x a b c).1 0) := iv_nR iv
theorem iv_buy {x : kK} {a : Int32} (iv : kIv (x.1 0)) : kIv ((g_X11_purchase x a).1 0) := iv_nS (by decide) (iv_nS (by decide) (iv_nS (by decide) iv))
theorem iv_enter {x : kK} {a b c : Int32} (iv : kIv (x.1 0)) : kIv ((g_X3_enterPlea x a b c).1 0) := by
  unfold g_X3_enterPlea
  split
  · exact iv
  · rename_i h
    obtain ⟨i0, i1, i2, i3, i4⟩ := iv
    obtain ⟨n, hn, e⟩ := i1
    refine ⟨by rw [nS_n (by decide)]; exact i0, ⟨n + 1, ?_, ?_⟩, by rw [nS_n (by decide)]; exact i2, by rw [nS_n (by decide)]; exact i3, by rw [nS_n (by decide)]; exact i4⟩
    · rw [e] at h
      rcases Nat.lt_or_ge n 8 with q | q
      · omega
      · exact absurd (nI_le (a := 8) (b := n) q (by omega)) h
    · rw [nS_s]
      show (x.1 0).2.1 6 + 1 = nI (n + 1)
      rw [e, nI_1]
theorem iv_throwAt {x : kK} {a b : Int32} (iv : kIv (x.1 0)) : kIv ((g_X11_throwAt x a b).1 0) := by
  unfold g_X11_throwAt
  split
  · split
    · exact iv_throw (iv_fly iv)
    · exact iv_throw (iv_fly iv)
  · exact iv_enter (iv_nR (iv_throw (iv_fly iv)))
theorem iv_hold {x : kK} {a : Int32} (iv : kIv (x.1 0)) (hp : ¬ f_X3_hasPlea x a = 0) : kIv ((g_X11_holdHearing x a).1 0) := by
  unfold g_X11_holdHearing
  exact iv_pass (iv_strike (iv_nS (by decide) (iv_nS (by decide) iv)) (hp_nS (by decide) (hp_nS (by decide) hp)))
theorem paL_iv {a : Int32} {k : Nat} : ∀ {x : kK} {j : Nat} {s : Int32}, kIv (x.1 0) → kIv ((paL a k x j s).1.1 0) := by
  induction k with
  | zero => intro x j s iv; exact iv
  | succ k ih =>
    intro x j s iv
    rw [paL]
    exact ih (iv_pass iv)
theorem iv_passH {x : kK} {a : Int32} (iv : kIv (x.1 0)) : kIv ((g_X11_passHours x a).1 0) := paL_iv iv
