/-! BITS: sets of cells as long numbers. -/
def tb (t : Int64) (q : Nat) : Bool := t.toBitVec.getLsbD q
theorem tb_ext {a b : Int64} (h : ∀ q, q < 64 → tb a q = tb b q) : a = b := Int64.toBitVec_inj.1 (BitVec.eq_of_getLsbD_eq fun i hi => h i hi)
theorem tb_or {a b : Int64} {q : Nat} : tb (a ||| b) q = (tb a q || tb b q) := by
  unfold tb
  rw [Int64.toBitVec_or, BitVec.getLsbD_or]
theorem tb_and {a b : Int64} {q : Nat} : tb (a &&& b) q = (tb a q && tb b q) := by
  unfold tb
  rw [Int64.toBitVec_and, BitVec.getLsbD_and]
theorem tb_xor {a b : Int64} {q : Nat} : tb (a ^^^ b) q = (tb a q ^^ tb b q) := by
  unfold tb
  rw [Int64.toBitVec_xor, BitVec.getLsbD_xor]
theorem tb_m1 {q : Nat} (h : q < 64) : tb (-1) q = true := by
  have h2 : ∀ q, q < 64 → tb (-1) q = true := by decide
  exact h2 q h
theorem tb_0 {q : Nat} : tb 0 q = false := by
  show (0 : Int64).toBitVec.getLsbD q = false
  rw [show (0 : Int64).toBitVec = 0#64 from rfl, BitVec.getLsbD_zero]
theorem tb_hi {a : Int64} {q : Nat} (h : 64 ≤ q) : tb a q = false := BitVec.getLsbD_of_ge _ _ h
theorem tb_shl {a : Int64} {k q : Nat} {c : Int32} (hc : c = nI k) (hk : k < 64) : tb (a <<< (Int32.toInt64 c &&& 63)) q = (decide (q < 64) && (!decide (q < k) && tb a (q - k))) := by
  subst hc
  have h2 : ∀ k, k < 64 → ((Int32.toInt64 (nI k) &&& 63).toBitVec.smod 64).toNat = k := by decide
  unfold tb
  rw [Int64.toBitVec_shiftLeft, BitVec.shiftLeft_eq', h2 k hk, BitVec.getLsbD_shiftLeft, Bool.and_assoc]
theorem tb_shr {a : Int64} {k q : Nat} {c : Int32} (hc : c = nI k) (hk : k < 64) : tb (Int64.toUInt64 a >>> (Int64.toUInt64 (Int32.toInt64 c) &&& Int64.toUInt64 63)).toInt64 q = tb a (q + k) := by
  subst hc
  have h2 : ∀ k, k < 64 → ((Int64.toUInt64 (Int32.toInt64 (nI k)) &&& Int64.toUInt64 63).toBitVec % 64).toNat = k := by decide
  show (Int64.toUInt64 a >>> (Int64.toUInt64 (Int32.toInt64 (nI k)) &&& Int64.toUInt64 63)).toBitVec.getLsbD q = a.toBitVec.getLsbD (q + k)
  rw [UInt64.toBitVec_shiftRight, BitVec.ushiftRight_eq', h2 k hk, BitVec.getLsbD_ushiftRight, Nat.add_comm]
  rfl
/-- one cell -/
def tbN (k : Nat) : Int64 := 1 <<< (Int32.toInt64 (nI k) &&& 63)
theorem tb_N {k q : Nat} (hk : k < 64) (hq : q < 64) : tb (tbN k) q = decide (q = k) := by
  have h2 : ∀ k, k < 64 → ∀ q, q < 64 → tb (tbN k) q = decide (q = k) := by decide +kernel
  exact h2 k hk q hq
theorem tb_1 {q : Nat} (hq : q < 64) : tb 1 q = decide (q = 0) := by
  have h2 : ∀ q, q < 64 → tb 1 q = decide (q = 0) := by decide
  exact h2 q hq
theorem tb_lo {y : Int64} : (y &&& 1 = 0) ↔ tb y 0 = false := by
  constructor
  · intro h
    have h2 := congrArg (fun z => tb z 0) h
    have h3 : tb (y &&& 1) 0 = tb 0 0 := h2
    rw [tb_and, tb_1 (by decide), tb_0] at h3
    simpa using h3
  · intro h
    apply tb_ext
    intro q hq
    rw [tb_and, tb_1 hq, tb_0]
    by_cases e : q = 0
    · subst e; rw [h]; rfl
    · rw [decide_eq_false e, Bool.and_false]
theorem bitA_tb {t : Int64} {k : Nat} (hk : k < 64) : bitA t (nI k) = tb t k := by
  have e : (t.toUInt64 >>> ((nI k).toInt64.toUInt64 &&& Int64.toUInt64 63)).toInt64 &&& 1 = 0 ↔ tb t k = false := by
    rw [tb_lo, tb_shr rfl hk, Nat.zero_add]
  unfold bitA
  cases h : tb t k with
  | true => exact decide_eq_true fun z => by rw [e.1 z] at h; cases h
  | false => exact decide_eq_false fun z => z (e.2 h)
theorem tb_b2i {t : Int64} {k : Nat} (hk : k < 64) : (b2i (bitA t (nI k)) = 0) ↔ tb t k = false := by
  rw [bitA_tb hk]
  cases tb t k with
  | true => exact ⟨fun h => by exact absurd h (by decide), fun h => by cases h⟩
  | false => exact ⟨fun _ => rfl, fun _ => rfl⟩
theorem tb_not {a : Int64} {q : Nat} (hq : q < 64) : tb (a ^^^ (-1)) q = !tb a q := by
  rw [tb_xor, tb_m1 hq, Bool.xor_true]
/-- a quarter turn: what each bit of an exchange is -/
def exI (g : Int64) (d q : Nat) : Nat := if tb g q = true then q + d else if tb g (q - d) = true ∧ d ≤ q then q - d else q
theorem tb_exch {s g : Int64} {d q : Nat} {c : Int32} (hc : c = nI d) (hd : d < 64) (hq : q < 64) (dis : ∀ q, q < 64 → tb g q = true → d ≤ q → tb g (q - d) = false) (up : ∀ q, q < 64 → tb g q = true → q + d < 64) : tb (f_X10_exchange s g c) q = tb s (exI g d q) := by
  unfold f_X10_exchange
  rw [tb_xor, tb_xor, tb_shl hc hd, tb_and, tb_xor, tb_shr hc hd, tb_and, tb_xor, tb_shr hc hd]
  unfold exI
  have q64 : decide (q < 64) = true := decide_eq_true hq
  rw [q64]
  by_cases h1 : tb g q = true
  · rw [if_pos h1, h1]
    by_cases h2 : q < d
    · rw [decide_eq_true h2]
      cases tb s q <;> cases tb s (q + d) <;> rfl
    · rw [decide_eq_false h2, dis q hq h1 (by omega)]
      cases tb s q <;> cases tb s (q + d) <;> simp
  · rw [if_neg h1]
    have h1 : tb g q = false := by cases h : tb g q with | true => exact absurd h h1 | false => rfl
    rw [h1]
    by_cases h2 : q < d
    · rw [if_neg (by omega), decide_eq_true h2]
      cases tb s q <;> simp
    · rw [decide_eq_false h2, Nat.sub_add_cancel (by omega)]
      cases h3 : tb g (q - d) with
      | true =>
        rw [if_pos ⟨rfl, by omega⟩]
        cases tb s q <;> cases tb s (q - d) <;> cases tb s (q + d) <;> rfl
      | false =>
        rw [if_neg (fun z => by cases z.1)]
        cases tb s q <;> simp
def exOk (g : Int64) (d : Nat) : Prop := (∀ q, q < 64 → tb g q = true → d ≤ q → tb g (q - d) = false) ∧ ∀ q, q < 64 → tb g q = true → q + d < 64
theorem exI_lt {g : Int64} {d q : Nat} (h : exOk g d) (hq : q < 64) : exI g d q < 64 := by
  unfold exI
  split
  · rename_i h1; exact h.2 q hq h1
  · split <;> omega
theorem exOk_1 : exOk 47851476196393130 7 := by unfold exOk; decide +kernel
theorem exOk_2 : exOk 225176545447116 14 := by unfold exOk; decide +kernel
theorem exOk_3 : exOk 4042322160 28 := by unfold exOk; decide +kernel
theorem exOk_4 : exOk 6148914691236517205 1 := by unfold exOk; decide +kernel
theorem exOk_5 : exOk 3689348814741910323 2 := by unfold exOk; decide +kernel
theorem exOk_6 : exOk 1085102592571150095 4 := by unfold exOk; decide +kernel
/-- where a cell's tree comes from in a quarter turn -/
def tuI (q : Nat) : Nat := 8 * (7 - q % 8) + q / 8
theorem tb_turned {x : kK} {q : Nat} (hq : q < 64) : tb (f_X10_turnedByExchange x) q = tb (x.1 0).1 (tuI q) := by
  unfold f_X10_turnedByExchange
  have a6 := exI_lt exOk_6 hq
  have a5 := exI_lt exOk_5 a6
  have a4 := exI_lt exOk_4 a5
  have a3 := exI_lt exOk_3 a4
  have a2 := exI_lt exOk_2 a3
  rw [tb_exch (c := 4) (d := 4) rfl (by decide) hq exOk_6.1 exOk_6.2, tb_exch (c := 2) (d := 2) rfl (by decide) a6 exOk_5.1 exOk_5.2, tb_exch (c := 1) (d := 1) rfl (by decide) a5 exOk_4.1 exOk_4.2, tb_exch (c := 28) (d := 28) rfl (by decide) a4 exOk_3.1 exOk_3.2, tb_exch (c := 14) (d := 14) rfl (by decide) a3 exOk_2.1 exOk_2.2, tb_exch (c := 7) (d := 7) rfl (by decide) a2 exOk_1.1 exOk_1.2]
  have h2 : ∀ q, q < 64 → exI 47851476196393130 7 (exI 225176545447116 14 (exI 4042322160 28 (exI 6148914691236517205 1 (exI 3689348814741910323 2 (exI 1085102592571150095 4 q))))) = tuI q := by decide +kernel
  rw [h2 q hq]
/-- a set put together cell by cell -/
def orL (P : Nat → Prop) (w : Nat → Nat) (n q : Nat) : Prop := ∃ j, j < n ∧ P j ∧ w j = q
theorem cell_nI {a b : Nat} (ha : a < 8) (hb : b < 8) : f_X11_cellAt (nI a) (nI b) = nI (8 * b + a) := by
  have h2 : ∀ a, a < 8 → ∀ b, b < 8 → f_X11_cellAt (nI a) (nI b) = nI (8 * b + a) := by decide
  exact h2 a ha b hb
theorem cell_7 {a b : Nat} (ha : a < 8) (hb : b < 8) : f_X11_cellAt (7 - nI b) (nI a) = nI (8 * a + (7 - b)) := by
  have h2 : ∀ a, a < 8 → ∀ b, b < 8 → f_X11_cellAt (7 - nI b) (nI a) = nI (8 * a + (7 - b)) := by decide
  exact h2 a ha b hb
theorem tb_tcI {t : Int64} {y : Nat} (hy : y < 8) {k : Nat} : ∀ {j : Nat} {s : Int64}, j + k = 8 → ∀ q, q < 64 → tb (tcI t (nI y) k j s) q = (tb s q || decide (q % 8 = 7 - y ∧ j ≤ q / 8 ∧ tb t (8 * y + q / 8) = true)) := by
  induction k with
  | zero =>
    intro j s hj q hq
    rw [tcI, decide_eq_false (by omega), Bool.or_false]
  | succ k ih =>
    intro j s hj q hq
    have hj8 : j < 8 := by omega
    rw [tcI, ih (by omega) q hq, cell_nI hj8 hy, cell_7 hj8 hy]
    have c1 : 8 * y + j < 64 := by omega
    by_cases h1 : b2i (bitA t (nI (8 * y + j))) = 0
    · rw [if_pos h1]
      have h2 := (tb_b2i c1).1 h1
      congr 1
      apply decide_eq_decide.2
      constructor
      · intro z; exact ⟨z.1, by omega, z.2.2⟩
      · intro z
        refine ⟨z.1, ?_, z.2.2⟩
        rcases Nat.lt_or_ge j (q / 8) with u | u
        · exact u
        · have : q / 8 = j := by omega
          rw [this, h2] at z
          cases z.2.2
    · rw [if_neg h1]
      have h2 : tb t (8 * y + j) = true := by
        cases z : tb t (8 * y + j) with
        | true => rfl
        | false => exact absurd ((tb_b2i c1).2 z) h1
      rw [tb_or, show (1 : Int64) <<< (Int32.toInt64 (nI (8 * j + (7 - y))) &&& 63) = tbN (8 * j + (7 - y)) from rfl, tb_N (by omega) hq, Bool.or_assoc]
      congr 1
      rw [← Bool.decide_or]
      apply decide_eq_decide.2
      constructor
      · intro z
        rcases z with z | z
        · subst z
          have e1 : (8 * j + (7 - y)) / 8 = j := by omega
          exact ⟨by omega, by omega, by rw [e1]; exact h2⟩
        · exact ⟨z.1, by omega, z.2.2⟩
      · intro z
        by_cases e : q / 8 = j
        · left; omega
        · right; exact ⟨z.1, by omega, z.2.2⟩
theorem tb_tcO {t : Int64} {k : Nat} : ∀ {j : Nat} {s : Int64}, j + k = 8 → ∀ q, q < 64 → tb (tcO t k j s) q = (tb s q || decide (j ≤ 7 - q % 8 ∧ tb t (tuI q) = true)) := by
  induction k with
  | zero =>
    intro j s hj q hq
    rw [tcO, decide_eq_false (by omega), Bool.or_false]
  | succ k ih =>
    intro j s hj q hq
    rw [tcO, ih (by omega) q hq, tb_tcI (by omega) (by omega) q hq, Bool.or_assoc, ← Bool.decide_or]
    congr 1
    apply decide_eq_decide.2
    unfold tuI
    constructor
    · intro z
      rcases z with z | z
      · have e : 7 - q % 8 = j := by omega
        exact ⟨by omega, by rw [e]; exact z.2.2⟩
      · exact ⟨by omega, z.2⟩
    · intro z
      by_cases e : 7 - q % 8 = j
      · left
        refine ⟨by omega, by omega, ?_⟩
        rw [← e]
        exact z.2
      · right
        exact ⟨by omega, z.2⟩
