/-! NUMBERS WRITTEN. -/
section NUM
variable {t hb : Nat} {x x2 : kK} {y y2 : kY}
theorem dg_k {n i : Nat} (hn : n < 2 ^ 31) (hi : i < 10) : ((nI n / pwT (9 - i)) - (nI n / pwT (9 - i)) / 10 * 10) = nI (n / 10 ^ i % 10) := by
  unfold pwT
  rw [if_pos (by omega), show 9 - (9 - i) = i by omega, pk_div hn (p10 hi).2 (p10 hi).1, show (10 : Int32) = nI 10 from rfl, pk_rem (Nat.lt_of_le_of_lt (Nat.div_le_self n _) hn) (by decide) (by decide)]
theorem dg_y {n J i : Nat} (hn : n < 2 ^ 31) (hJ : J < 10) (hi : i ≤ J) : ((nI n / (pD J (J - i))) - (nI n / (pD J (J - i))) / 10 * 10) = nI (n / 10 ^ i % 10) := by
  have h10 : i < 10 := by omega
  unfold pD
  rw [if_pos (by omega), show J - (J - i) = i by omega, pk_div hn (p10 h10).2 (p10 h10).1, show (10 : Int32) = nI 10 from rfl, pk_rem (Nat.lt_of_le_of_lt (Nat.div_le_self n _) hn) (by decide) (by decide)]
theorem ch_d {d : Nat} (hd : d < 10) : (Int32.toUInt32 (48 + nI d) % 65536).toInt32 = nI (48 + d) := by
  rw [show (48 : Int32) = nI 48 from rfl, nI_add, ch_u (by omega)]
theorem md10 (a : Nat) : a % 10 < 10 := Nat.mod_lt _ (by decide)
theorem pn_w {n J : Nat} (hn : n < 2 ^ 31) (hJ : J < 10) {i : Nat} : ∀ {x : kK} {y : kY} {L : Nat}, i ≤ J + 1 → LN L x y → L + i ≤ 32 → LN (L + i) (pnL (nI n) i x (10 - i) 1) (wnW (nI n) J i y (J + 1 - i)) ∧ kN7 x (pnL (nI n) i x (10 - i) 1) ∧ kY7 y (wnW (nI n) J i y (J + 1 - i)) := by
  induction i with
  | zero => intro x y L _ h _; exact ⟨h, kN7_r, kY7_r⟩
  | succ i ih =>
    intro x y L hi h hL
    have d := md10 (n / 10 ^ i)
    rw [pnL, if_neg z10, wnW, show 10 - (i + 1) = 9 - i by omega, show J + 1 - (i + 1) = J - i by omega, dg_k hn (by omega), dg_y hn hJ (by omega), ch_d d, show (48 : Int32) = nI 48 from rfl, nI_add, show 9 - i + 1 = 10 - i by omega, show J - i + 1 = J + 1 - i by omega]
    obtain ⟨p1, p2, p3⟩ := LN_put h (by omega) (n := 48 + n / 10 ^ i % 10) (by omega)
    obtain ⟨g1, g2, g3⟩ := ih (by omega) p1 (by omega)
    rw [show L + (i + 1) = L + 1 + i by omega]
    exact ⟨g1, kN7_t p2 g2, kY7_t p3 g3⟩
theorem pw_1 {i : Nat} (h1 : 1 ≤ i) (hi : i < 10) : ¬ pwT (9 - i) = 1 := by
  have h : ∀ i, i < 10 → 1 ≤ i → ¬ pwT (9 - i) = 1 := by decide
  exact h i hi h1
theorem pn_z {n J : Nat} (hn : n < 2 ^ 31) (h1 : n < 10 ^ (J + 1)) (h2 : J = 0 ∨ 10 ^ J ≤ n) {d : Nat} : ∀ {x : kK}, J + d < 10 → pnL (nI n) (J + d + 1) x (9 - (J + d)) 0 = pnL (nI n) J (g_X8_put x (nI (48 + n / 10 ^ J % 10))) (10 - J) 1 := by
  induction d with
  | zero =>
    intro x hd
    have hJ : J < 10 := by omega
    have dl := md10 (n / 10 ^ J)
    show pnL (nI n) (J + 1) x (9 - J) 0 = _
    rw [pnL, if_pos rfl, dg_k hn hJ, ch_d dl, show 9 - J + 1 = 10 - J by omega]
    by_cases z : nI (n / 10 ^ J % 10) = 0
    · have z0 : n / 10 ^ J % 10 = 0 := (nI_eq (b := 0) (by omega) (by omega)).1 z
      have j0 : J = 0 := by
        rcases h2 with h | h
        · exact h
        · have q1 : 1 ≤ n / 10 ^ J := (Nat.le_div_iff_mul_le (p10 hJ).2).2 (by rw [Nat.one_mul]; exact h)
          have q2 : n / 10 ^ J < 10 := (Nat.div_lt_iff_lt_mul (p10 hJ).2).2 (by rw [Nat.mul_comm, ← Nat.pow_succ]; exact h1)
          omega
      subst j0
      rw [if_pos z, if_pos (show pwT (9 - 0) = 1 by decide)]
    · rw [if_neg z]
  | succ d ih =>
    intro x hd
    have lt : n < 10 ^ (J + (d + 1)) := Nat.lt_of_lt_of_le h1 (Nat.pow_le_pow_right (by decide) (by omega))
    have z : nI (n / 10 ^ (J + (d + 1)) % 10) = 0 := by rw [Nat.div_eq_of_lt lt]; rfl
    rw [pnL, if_pos rfl, dg_k hn hd, if_pos z, if_neg (pw_1 (by omega) hd), show 9 - (J + (d + 1)) + 1 = 9 - (J + d) by omega, show J + (d + 1) = J + d + 1 by omega]
    exact ih (by omega)
theorem wnD_s {m k : Nat} (hm : m < 10 ^ 10) : ∀ {j : Nat}, j + k = 9 → (j = 0 ∨ 10 ^ j ≤ m) → m < 10 ^ (wnD m k j + 1) ∧ (wnD m k j = 0 ∨ 10 ^ (wnD m k j) ≤ m) ∧ wnD m k j ≤ 9 := by
  induction k with
  | zero =>
    intro j hj h
    have : j = 9 := by omega
    subst this
    exact ⟨hm, h, Nat.le_refl _⟩
  | succ k ih =>
    intro j hj h
    have pos := (p10 (j := j) (by omega)).2
    rw [wnD]
    by_cases h2 : m / 10 ^ j < 10
    · rw [if_pos h2]
      refine ⟨?_, h, by omega⟩
      have := (Nat.div_lt_iff_lt_mul pos).1 h2
      rw [Nat.pow_succ, Nat.mul_comm]
      exact this
    · rw [if_neg h2]
      refine ih (by omega) (Or.inr ?_)
      have := (Nat.le_div_iff_mul_le pos).1 (Nat.le_of_not_lt h2)
      rw [Nat.pow_succ, Nat.mul_comm]
      exact this
/-- a number is written on both sides alike -/
theorem LN_num {L n : Nat} (h : LN L x y) (hn : n < 10 ^ 9) (hL : L + 9 ≤ 32) : ∃ d, 1 ≤ d ∧ d ≤ 9 ∧ LN (L + d) (pnL (nI n) 10 x 0 0) (g_X12_writesNumber y (nI n)) ∧ kN7 x (pnL (nI n) 10 x 0 0) ∧ kY7 y (g_X12_writesNumber y (nI n)) := by
  have h31 : n < 2 ^ 31 := Nat.lt_trans hn (by decide)
  obtain ⟨w1, w2, w3⟩ := wnD_s (m := n) (k := 9) (Nat.lt_trans hn (by decide)) (j := 0) (by omega) (Or.inl rfl)
  unfold g_X12_writesNumber
  rw [nI_clamp h31]
  generalize wnD n 9 0 = J at *
  have J8 : J ≤ 8 := by
    rcases w2 with h | h
    · omega
    · rcases Nat.lt_or_ge J 9 with q | q
      · omega
      · have : J = 9 := by omega
        subst this
        exact absurd hn (Nat.not_lt.2 h)
  have z := pn_z h31 w1 w2 (d := 9 - J) (x := x) (by omega)
  rw [show J + (9 - J) + 1 = 10 by omega, show 9 - (J + (9 - J)) = 0 by omega] at z
  rw [z, wnW]
  have dy := dg_y (n := n) (J := J) (i := J) h31 (by omega) (Nat.le_refl _)
  rw [Nat.sub_self] at dy
  have d := md10 (n / 10 ^ J)
  rw [dy, show (48 : Int32) = nI 48 from rfl, nI_add]
  obtain ⟨p1, p2, p3⟩ := LN_put h (by omega) (n := 48 + n / 10 ^ J % 10) (by omega)
  obtain ⟨g1, g2, g3⟩ := pn_w (J := J) (i := J) h31 (by omega) (by omega) p1 (by omega)
  rw [show J + 1 - J = 0 + 1 by omega] at g1 g3
  refine ⟨J + 1, by omega, by omega, ?_, kN7_t p2 g2, kY7_t p3 g3⟩
  rw [show L + (J + 1) = L + 1 + J by omega]
  exact g1
/-! a plea described -/
def dpK (x : kK) (p f u : Int32) : kK := pnL u 10 (g_X8_put (pnL f 10 (g_X8_put (pnL p 10 (g_X8_put (kkS x 7 0) 112) 0 0) 58) 0 0) 45) 0 0
def dpY (y : kY) (p f u : Int32) : kY := g_X12_writesNumber (g_X12_writes (g_X12_writesNumber (g_X12_writes (g_X12_writesNumber (g_X12_writes (yS y 12 0) 112) p) 58) f) 45) u
theorem dp_core {p f u : Int32} : (dpK x p f u).1 = x.1 := by unfold dpK; rw [pnL_core, put_core, pnL_core, put_core, pnL_core, put_core]; rfl
theorem dp_ln {p f u : Nat} (hp : p < 10 ^ 9) (hf : f < 10 ^ 9) (hu : u < 10 ^ 9) : ∃ L, L ≤ 31 ∧ LN L (dpK x (nI p) (nI f) (nI u)) (dpY y (nI p) (nI f) (nI u)) ∧ kN7 x (dpK x (nI p) (nI f) (nI u)) ∧ kY7 y (dpY y (nI p) (nI f) (nI u)) := by
  have x0 : kN7 x (kkS x 7 0) := ⟨rfl, fun k hk => by show upd x.2.1 7 0 k = _; rw [pk_un hk], fun _ _ => rfl, id⟩
  have y0 : kY7 y (yS y 12 0) := ⟨fun k hk => by rw [ys_1, pk_un hk], fun _ _ => rfl⟩
  have l0 : LN 0 (kkS x 7 0) (yS y 12 0) := ⟨by show upd x.2.1 7 0 7 = _; rw [pk_us]; rfl, by rw [ys_1, pk_us]; rfl, fun j hj => absurd hj (Nat.not_lt_zero _)⟩
  unfold dpK dpY
  obtain ⟨a1, a2, a3⟩ := LN_put l0 (by omega) (n := 112) (by omega)
  obtain ⟨d1, e1, e2, b1, b2, b3⟩ := LN_num a1 hp (by omega)
  obtain ⟨c1, c2, c3⟩ := LN_put b1 (by omega) (n := 58) (by omega)
  obtain ⟨d2, e3, e4, f1, f2, f3⟩ := LN_num c1 hf (by omega)
  obtain ⟨g1, g2, g3⟩ := LN_put f1 (by omega) (n := 45) (by omega)
  obtain ⟨d3, e5, e6, h1, h2, h3⟩ := LN_num g1 hu (by omega)
  exact ⟨_, by omega, h1, kN7_t (kN7_t (kN7_t (kN7_t (kN7_t (kN7_t x0 a2) b2) c2) f2) g2) h2, kY7_t (kY7_t (kY7_t (kY7_t (kY7_t (kY7_t y0 a3) b3) c3) f3) g3) h3⟩
end NUM
