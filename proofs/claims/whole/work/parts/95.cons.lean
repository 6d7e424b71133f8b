/-! THE COURT IS CONSISTENT: both say 1. -/
/-- what queries may leave behind -/
def kQf (x x2 : kK) : Prop := x2.1 = x.1 ∧ (∀ k, k ≠ 2 → k ≠ 3 → x2.2.1 k = x.2.1 k) ∧ ∀ k, k = 5 ∨ k = 7 → x2.2.2.1 k = x.2.2.1 k
theorem kQf_r {x : kK} : kQf x x := ⟨rfl, fun _ _ _ => rfl, fun _ _ => rfl⟩
theorem kQf_t {x x2 x3 : kK} (a : kQf x x2) (b : kQf x2 x3) : kQf x x3 := ⟨b.1.trans a.1, fun k h1 h2 => (b.2.1 k h1 h2).trans (a.2.1 k h1 h2), fun k h => (b.2.2 k h).trans (a.2.2 k h)⟩
theorem kQf_pl {x x2 : kK} (a : kPl x x2) : kQf x x2 := ⟨a.1, fun k _ _ => by rw [a.2.1], a.2.2⟩
theorem kQf_k {x : kK} {k : Nat} {f : Nat → Int32} (h : k ≠ 5 ∧ k ≠ 7) : kQf x (kkR x k f) := kQf_pl (kPl_k h)
theorem kQf_q {x x2 : kK} (a : kKq x x2) (h : x2.1 = x.1) : kQf x x2 := ⟨h, a.2.1, fun k hk => a.2.2.1 k (by omega)⟩
theorem RX_qf {t : Nat} {x x2 : kK} {y : kY} (X : RX t x y) (h : kQf x x2) (hc : kChn x2) : RX t x2 y := RX_q X (Nat.le_refl _) h.1 h.2.1 h.2.2 hc (fun _ _ _ _ => rfl) (fun _ _ _ => rfl)
theorem cqI_qf {a : Int32} {i k : Nat} : ∀ {x : kK} {j : Nat} {s : Int64} {w : Int32}, kQf x (cqI a i k x j s w).1 := by
  induction k with
  | zero => intro x j s w; exact kQf_r
  | succ k ih =>
    intro x j s w
    rw [cqI]
    repeat' split
    all_goals first
      | exact ih
      | exact kQf_t (kQf_k ⟨by decide, by decide⟩) ih
theorem cqL_qf {a : Int32} {k : Nat} : ∀ {x : kK} {j : Nat} {s : Int64} {w : Int32}, kQf x (cqL a k x j s w).1 := by
  induction k with
  | zero => intro x j s w; rw [cqL, ite_self]; exact kQf_r
  | succ k ih =>
    intro x j s w
    rw [cqL]
    split
    · exact kQf_r
    · exact kQf_t cqI_qf ih
theorem irc_qf {x : kK} {a : Int32} : kQf x (g_X11_isReachConsistent x a) := by
  unfold g_X11_isReachConsistent g_X11_reachByQueue_ok g_X11_connectedByQueue
  repeat' split
  all_goals first
    | exact kQf_r
    | exact kQf_t (kQf_k ⟨by decide, by decide⟩) cqL_qf
theorem stL_qf {c : Int32} {k : Nat} : ∀ {x : kK} {j : Nat} {s : Int64}, kQf x (stL c k x j s).1 := by
  induction k with
  | zero => intro x j s; exact kQf_r
  | succ k ih =>
    intro x j s
    rw [stL]
    split
    · exact kQf_t (kQf_q q_fly fly_ok.2) ih
    · exact kQf_t (kQf_q q_fly fly_ok.2) ih
theorem sbL_qf {c : Int32} {k : Nat} : ∀ {x : kK} {j : Nat} {s : Int64}, kQf x (sbL c k x j s).1 := by
  induction k with
  | zero => intro x j s; exact kQf_r
  | succ k ih =>
    intro x j s
    rw [sbL]
    unfold g_X11_flightBits_ok
    exact kQf_t (kQf_q q_fly fly_ok.2) ih
section CNS
variable {t : Nat} {x : kK} {y : kY}
theorem irc_1 (X : RX t x y) {c : Int32} (hc : isN c 64) : f_X11_isReachConsistent x c = 1 ∧ RX t (g_X11_isReachConsistent x c) y := by
  refine ⟨?_, RX_qf X irc_qf (irc_co.2 X.O.2.1)⟩
  obtain ⟨n, hn, rfl⟩ := hc
  have ic : ∀ c, c < 64 → ¬ f_X11_isCell (nI c &&& 7) ((nI c >>> ((3 : Int32) &&& 31)) &&& 7) = 0 := by decide +kernel
  have h1 := (q_reach X (a := nI n &&& 7) (b := (nI n >>> ((3 : Int32) &&& 31)) &&& 7)).2
  have h2 := (q_reachByQueue X (a := nI n &&& 7) (b := (nI n >>> ((3 : Int32) &&& 31)) &&& 7)).2
  unfold o_X11_reach okL exE at h1
  unfold o_X11_reachByQueue okL exE f_X12_reachByQueue at h2
  rw [if_neg (ic n hn)] at h1 h2
  have e : f_X11_reach_ok x (nI n &&& 7) ((nI n >>> ((3 : Int32) &&& 31)) &&& 7) = f_X11_reachByQueue_ok x (nI n &&& 7) ((nI n >>> ((3 : Int32) &&& 31)) &&& 7) := by
    rcases h1 with ⟨a, -⟩ | ⟨a, -⟩
    · rcases h2 with ⟨b, -⟩ | ⟨b, -⟩
      · exact (Value.long.inj (Option.some.inj (Sum.inl.inj a))).trans (Value.long.inj (Option.some.inj (Sum.inl.inj b))).symm
      · cases b
    · cases a
  unfold f_X11_isReachConsistent
  rw [if_pos (lg_cmp_0.2 e)]
theorem asL_1 {c : Int32} {k : Nat} : ∀ {x : kK} {j : Nat}, j + k = nP (y.2 0) → RX t x y → (asL c k x j).2 = 1 ∧ RX t (asL c k x j).1 y := by
  induction k with
  | zero => intro x j _ X; exact ⟨rfl, X⟩
  | succ k ih =>
    intro x j hj X
    have n8 := X.R.nP8
    have X1 : RX t (g_X11_servingThrows_ok x (nI j)) y := RX_qf X stL_qf (sv_co.2 X.O.2.1)
    have X2 : RX t (g_X11_servingThrowsBySets_ok (g_X11_servingThrows_ok x (nI j)) (nI j)) y := RX_qf X1 sbL_qf (sw_co.2 X1.O.2.1)
    have hp : ∀ {z : kK}, RX t z y → b2i (decide (0 ≤ nI j ∧ nI j < (z.1 0).2.1 3)) = 1 := fun {z} Z => hpQ_t (by rw [Z.R.n3]; exact Z.R.eP) (by omega) (by omega)
    have h1 := (q_servingThrows X (a := nI j)).2
    have h2 := (q_servingThrowsBySets X1 (a := nI j)).2
    unfold o_X11_servingThrows okL exE at h1
    unfold o_X11_servingThrowsBySets okL exE f_X12_servingThrowsBySets at h2
    rw [hp X, if_neg z10] at h1
    rw [hp X1, if_neg z10] at h2
    have e : f_X11_servingThrows_ok x (nI j) = f_X11_servingThrowsBySets_ok (g_X11_servingThrows_ok x (nI j)) (nI j) := by
      rcases h1 with ⟨a, -⟩ | ⟨a, -⟩
      · rcases h2 with ⟨b, -⟩ | ⟨b, -⟩
        · exact (Value.long.inj (Option.some.inj (Sum.inl.inj a))).trans (Value.long.inj (Option.some.inj (Sum.inl.inj b))).symm
        · cases b
      · cases a
    rw [asL, if_pos (lg_cmp_0.2 e)]
    exact ih (by omega) X2
theorem icL_1 {v : Nat → Int32} {hb : Nat} {c : kCo} (R : RJ hb t c v) {k : Nat} : ∀ {j : Nat}, j + k = nP v → ∃ w, icL v k j = .inr w := by
  have n8 := R.nP8
  induction k with
  | zero => intro j _; exact ⟨_, rfl⟩
  | succ k ih =>
    intro j hj
    have d := R.D.2 j (by omega)
    rw [icL, cop (by omega), if_pos d.2.1, if_neg d.1]
    exact ih (by omega)
theorem q_isConsistent (X : RX t x y) (ht : t < 2 ^ 20) : RX t (g_X11_isConsistent x) (g_X12_isConsistent y) ∧ f_X11_isConsistent x = f_X12_isConsistent y ∧ (g_X12_isConsistent y).1 0 = 0 := by
  have R := X.R
  obtain ⟨w, hw⟩ := icL_1 R (k := nP (y.2 0)) (j := 0) (by omega)
  have eY : f_X12_isConsistent y = 1 ∧ g_X12_isConsistent y = yS y 0 0 := by
    unfold f_X12_isConsistent g_X12_isConsistent
    rw [hw, Sum.elim_inr, Sum.elim_inr, if_pos R.D.1, if_pos R.D.1]
    exact ⟨rfl, rfl⟩
  have h0 : lg_cmp (f_X11_turnedTrees x) (f_X11_turnedTreesByCells x) = 0 := lg_cmp_0.2 ((q_turnedTrees X).2.1.trans (q_turnedTreesByCells X).2.1.symm)
  obtain ⟨a1, X1⟩ := irc_1 X (c := 0) ⟨0, by omega, rfl⟩
  obtain ⟨a2, X2⟩ := irc_1 X1 (c := 21) ⟨21, by omega, rfl⟩
  obtain ⟨a3, X3⟩ := irc_1 X2 (c := 42) ⟨42, by omega, rfl⟩
  obtain ⟨a4, X4⟩ := irc_1 X3 (c := 63) ⟨63, by omega, rfl⟩
  rw [eY.1, eY.2]
  unfold f_X11_isConsistent g_X11_isConsistent
  rw [if_pos h0, if_pos h0, a1, if_neg z10, if_neg z10, a2, if_neg z10, if_neg z10, a3, if_neg z10, if_neg z10, a4, if_neg z10, if_neg z10]
  clear a1 X1 a2 X2 a3 X3 a4
  revert X4
  generalize g_X11_isReachConsistent (g_X11_isReachConsistent (g_X11_isReachConsistent (g_X11_isReachConsistent x 0) 21) 42) 63 = x4
  intro X4
  obtain ⟨a5, X5⟩ := irc_1 X4 (c := (x4.1 0).2.1 0) (by rw [X4.R.n0]; exact X4.R.B.2.2.1)
  rw [a5, if_neg z10, if_neg z10]
  clear a5
  revert X5
  generalize g_X11_isReachConsistent x4 ((x4.1 0).2.1 0) = x5
  intro X5
  obtain ⟨a6, X6⟩ := asL_1 (c := (x5.1 0).2.1 3) (k := nP (y.2 0)) (j := 0) (by omega) X5
  have e6 : Int32.toNatClampNeg ((x5.1 0).2.1 3) = nP (y.2 0) := by rw [X5.R.n3]
  rw [e6, a6, if_neg z10, if_neg z10]
  clear a6
  revert X6
  generalize (asL ((x5.1 0).2.1 3) (nP (y.2 0)) x5 0).1 = x6
  intro X6
  have m1 := (q_mostHearings X6 ht).2.1
  have X7 : RX t (g_X11_mostHearings x6) y := RX_qf X6 (kQf_pl qfL_pl2) ((mh_co X6.R.iv).2 X6.O.2.1)
  obtain ⟨Y8, m2, -⟩ := q_mostHearingsByChains X7 ht
  have e7 : f_X11_mostHearings x6 = f_X11_mostHearingsByChains (g_X11_mostHearings x6) := m1.trans m2.symm
  rw [if_pos e7, if_pos e7]
  revert Y8
  generalize g_X11_mostHearingsByChains (g_X11_mostHearings x6) = x8
  intro Y8
  have e8 : f_X11_coins x8 = f_X11_coinsByAccounts x8 := (q_coins Y8).2.1.trans (q_coinsByAccounts Y8).2.1.symm
  rw [if_pos e8, if_pos e8]
  exact ⟨Y8, rfl, rfl⟩
end CNS
