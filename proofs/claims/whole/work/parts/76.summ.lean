/-! SUMMONS, on both sides. -/
/-- a flight changes its own numbers alone -/
def kF7 (x y : kY) : Prop := ∀ k, k ≠ 7 → k ≠ 8 → y.1 k = x.1 k
theorem kF7_t {x y z : kY} (h1 : kF7 x y) (h2 : kF7 y z) : kF7 x z := fun k a b => (h2 k a b).trans (h1 k a b)
theorem en_7 {x : kY} {w : Int32} : kF7 x (g_X12_enters x w) := by
  unfold g_X12_enters
  split
  · intro k h7 h8
    show upd (upd x.1 8 _) 7 _ k = x.1 k
    rw [pk_un h7, pk_un h8]
  · intro k h7 h8
    show upd x.1 8 _ k = x.1 k
    rw [pk_un h8]
theorem fiI_7 {a w : Int32} {k : Nat} : ∀ {x : kY} {j : Nat}, Sum.elim (fun y : kY × Int32 => kF7 x y.1) (fun y : kY => kF7 x y) (fiI a w k x j) := by
  induction k with
  | zero => intro x j; exact fun _ _ _ => rfl
  | succ k ih =>
    intro x j
    rw [fiI]
    split
    · exact en_7
    · have h := ih (x := g_X12_enters x w) (j := j + 1)
      revert h
      generalize fiI a w k (g_X12_enters x w) (j + 1) = z
      intro h
      cases z with
      | inl y => exact kF7_t en_7 h
      | inr y => exact kF7_t en_7 h
theorem fiL_7 {a : Int32} {k : Nat} : ∀ {x : kY} {j : Nat} {w : Int32}, Sum.elim (fun y : kY × Int32 => kF7 x y.1) (fun y : kY => kF7 x y) (fiL a k x j w) := by
  induction k with
  | zero => intro x j w; exact fun _ _ _ => rfl
  | succ k ih =>
    intro x j w
    have h1 := fiI_7 (a := a) (w := w) (k := Int32.toNatClampNeg (f_X12_arm a)) (x := x) (j := 0)
    rw [fiL]
    revert h1
    generalize fiI a w (Int32.toNatClampNeg (f_X12_arm a)) x 0 = z
    intro h1
    cases z with
    | inl y => exact h1
    | inr y =>
      simp only [Sum.elim_inr]
      have e : kF7 x y := h1
      have go : ∀ (q : kY) (w2 : Int32), kF7 x q → Sum.elim (fun y : kY × Int32 => kF7 x y.1) (fun y : kY => kF7 x y) (fiL a k q (j + 1) w2) := by
        intro q w2 e2
        have h9 := ih (x := q) (j := j + 1) (w := w2)
        revert h9
        generalize fiL a k q (j + 1) w2 = z
        intro h9
        cases z with
        | inl y => exact kF7_t e2 h9
        | inr y => exact kF7_t e2 h9
      split
      · split
        · exact go _ _ e
        · exact go _ _ e
      · split
        · exact kF7_t e en_7
        · split
          · exact go _ _ (kF7_t e en_7)
          · exact go _ _ (kF7_t e en_7)
theorem flies_7 {x : kY} {a : Int32} : kF7 x (g_X12_flies x a) := by
  have h0 : kF7 x (yS (yR (yS x 7 0) 4 (upd (x.2 4) 0 (x.2 0 3))) 8 0) := by
    intro k h7 h8
    show upd (upd x.1 7 0) 8 0 k = x.1 k
    rw [pk_un h8, pk_un h7]
  have h := fiL_7 (a := a) (k := 8) (x := yS (yR (yS x 7 0) 4 (upd (x.2 4) 0 (x.2 0 3))) 8 0) (j := 0) (w := a - a / 8 * 8)
  unfold g_X12_flies
  revert h
  generalize fiL a 8 (yS (yR (yS x 7 0) 4 (upd (x.2 4) 0 ((x.2 0) 3))) 8 0) 0 (a - a / 8 * 8) = z
  intro h
  cases z with
  | inl y => exact kF7_t h0 h
  | inr y => exact kF7_t h0 h
/-! what a throw enters -/
def suB (w : Nat → Int32) (arm st : Int32) : Nat → Int32 := upd (upd (upd w 1 (w 1 - arm)) 9 (w 9 + 1)) 11 (w 11 + st)
def suM (w : Nat → Int32) (arm st c h : Int32) : Nat → Int32 := upd (upd (suB w arm st) 10 (w 10 + c)) 2 (w 2 - h)
def suS0 (w : Nat → Int32) (arm st : Int32) : Nat → Int32 := upd (suB w arm st) 2 (w 2 - 1)
def suS1 (w : Nat → Int32) (arm st a1 : Int32) : Nat → Int32 := upd (suS0 w arm st) (Int32.toNatClampNeg (76 + 2 * a1 + 1)) (suS0 w arm st (Int32.toNatClampNeg (76 + 2 * a1 + 1)) + 1)
def suS2 (w : Nat → Int32) (arm st a1 : Int32) : Nat → Int32 := upd (suS1 w arm st a1) (Int32.toNatClampNeg (f_X12_pleaAt (w 7) 0)) a1
def suS3 (w : Nat → Int32) (arm st a1 : Int32) : Nat → Int32 := upd (suS2 w arm st a1) (Int32.toNatClampNeg (f_X12_pleaAt (w 7) 1)) (suS2 w arm st a1 0 + st / 4)
def suS4 (w : Nat → Int32) (arm st a1 : Int32) : Nat → Int32 := upd (suS3 w arm st a1) (Int32.toNatClampNeg (f_X12_pleaAt (w 7) 2)) arm
def suS (w : Nat → Int32) (arm st a1 : Int32) : Nat → Int32 := upd (suS4 w arm st a1) 7 (suS4 w arm st a1 7 + 1)
theorem i_r5 (a b c d e : Int32) : a + b - c - d - e = a + b - (c + e) - d := by
  rw [i_r1 (a + b) c e, ← i_r1 (a + b - c) d e, Int32.add_comm d e, i_r1]
/-- the class's numbers behind a throw -/
def thN (c : kCo) (arm st : Int32) : kCo := cS (cS (cS (cS c 8 (c.2.1 8 - arm)) 10 (c.2.1 10 + arm)) 12 (c.2.1 12 + 1)) 14 (c.2.1 14 + st)
section SUM
variable {t : Nat} {x x2 : kK} {y : kY}
theorem thA (R : RI t (x.1 0) (y.2 0)) {arm st : Int32} : rcA (thN (x.1 0) arm st) := by
  show (x.1 0).2.1 8 - arm = 50 + (x.1 0).2.1 9 - ((x.1 0).2.1 10 + arm) - (x.1 0).2.1 11
  rw [← i_r5, ← R.A]
theorem thC (R : RI t (x.1 0) (y.2 0)) {arm st : Int32} : rcN (thN (x.1 0) arm st) (suB (y.2 0) arm st) := by
  unfold thN suB
  rw [R.n8, R.n12, R.n14]
  exact rcN_S (rcN_S (rcN_x (rcN_S R.N (k := 8) (by decide) (by decide) _) (k := 10) (by decide) _) (k := 12) (by decide) (by decide) _) (k := 14) (by decide) (by decide) _
theorem suB_o {w : Nat → Int32} {arm st : Int32} {i : Nat} (h1 : i ≠ 1) (h9 : i ≠ 9) (h11 : i ≠ 11) : suB w arm st i = w i := by
  unfold suB
  rw [pk_un h11, pk_un h9, pk_un h1]
theorem suM_o {w : Nat → Int32} {arm st c h : Int32} {i : Nat} (h1 : i ≠ 1) (h9 : i ≠ 9) (h11 : i ≠ 11) (h10 : i ≠ 10) (h2 : i ≠ 2) : suM w arm st c h i = w i := by
  unfold suM
  rw [pk_un h2, pk_un h10, suB_o h1 h9 h11]
/-- nobody is served -/
theorem RI_miss (R : RI t (x.1 0) (y.2 0)) {arm : Int32} {st : Nat} (hst : st ≤ 35) {b : Bool} (h0 : y.2 0 2 ≠ 0) : RI (t + 1) (if b = true then cS (thN (x.1 0) arm (nI st)) 13 ((x.1 0).2.1 13 + 1) else cS (thN (x.1 0) arm (nI st)) 7 ((x.1 0).2.1 7 - 1)) (suM (y.2 0) arm (nI st) (if b = true then 1 else 0) (if b = true then 0 else 1)) := by
  have hA := thA R (arm := arm) (st := nI st)
  have hC := thC R (arm := arm) (st := nI st)
  have u : ∀ i, i ≠ 1 → i ≠ 9 → i ≠ 11 → i ≠ 10 → i ≠ 2 → suM (y.2 0) arm (nI st) (if b = true then 1 else 0) (if b = true then 0 else 1) i = y.2 0 i := fun i h1 h9 h11 h10 h2 => suM_o h1 h9 h11 h10 h2
  obtain ⟨b1, b2, b3, b4, b5, b6, ⟨z, z1, z2⟩, ⟨a, b0, q1, q2, q3, q4⟩, ⟨s, s1, s2⟩⟩ := R.B
  have hz : 0 < z := by
    rcases Nat.eq_zero_or_pos z with q | q
    · subst q; exact absurd z2 h0
    · exact q
  have w9 : suM (y.2 0) arm (nI st) (if b = true then 1 else 0) (if b = true then 0 else 1) 9 = nI (b0 + 1) := by
    unfold suM suB
    rw [pk_un (by decide), pk_un (by decide), pk_un (by decide), pk_us, q4, nI_1]
  have w11 : suM (y.2 0) arm (nI st) (if b = true then 1 else 0) (if b = true then 0 else 1) 11 = nI (s + st) := by
    unfold suM suB
    rw [pk_un (by decide), pk_un (by decide), pk_us, s2, nI_add]
  cases b with
  | true =>
    simp only [if_true] at *
    have w2 : suM (y.2 0) arm (nI st) 1 0 2 = nI z := by
      unfold suM
      rw [pk_us, z2, show nI z - 0 = nI z from Int32.sub_zero _]
    have w10 : suM (y.2 0) arm (nI st) 1 0 10 = nI (a + 1) := by
      unfold suM
      rw [pk_un (by decide), pk_us, q3, nI_1]
    refine RI_nums R (by omega) ?_ hA ⟨by rw [u 6 (by decide) (by decide) (by decide) (by decide) (by decide)]; exact b1, by rw [u 7 (by decide) (by decide) (by decide) (by decide) (by decide)]; exact b2, by rw [u 3 (by decide) (by decide) (by decide) (by decide) (by decide)]; exact b3, by rw [u 4 (by decide) (by decide) (by decide) (by decide) (by decide)]; exact b4, by rw [u 5 (by decide) (by decide) (by decide) (by decide) (by decide)]; exact b5, by rw [u 0 (by decide) (by decide) (by decide) (by decide) (by decide)]; exact isN_m b6 (by omega), ⟨z, by omega, w2⟩, ⟨a + 1, b0 + 1, by omega, by omega, w10, w9⟩, ⟨s + st, by omega, w11⟩⟩ rfl rfl (u 0 (by decide) (by decide) (by decide) (by decide) (by decide)) (u 3 (by decide) (by decide) (by decide) (by decide) (by decide)) (u 6 (by decide) (by decide) (by decide) (by decide) (by decide)) (u 7 (by decide) (by decide) (by decide) (by decide) (by decide)) (fun i h1 h2 => u i (by omega) (by omega) (by omega) (by omega) (by omega))
    refine rcN_v (rcN_S hC (k := 13) (by decide) (by decide) ((x.1 0).2.1 13 + 1)) ?_
    intro i h1 h2
    show suM (y.2 0) arm (nI st) 1 0 i = upd (suB (y.2 0) arm (nI st)) 10 ((x.1 0).2.1 13 + 1) i
    rw [R.n13]
    by_cases e : i = 2
    · subst e
      rw [w2, pk_un (by decide), suB_o (by decide) (by decide) (by decide), z2]
    · unfold suM
      rw [pk_un e]
  | false =>
    simp only [Bool.false_eq_true, if_false] at *
    have w2 : suM (y.2 0) arm (nI st) 0 1 2 = nI (z - 1) := by
      unfold suM
      rw [pk_us, z2, show z = z - 1 + 1 by omega, nI_pred, Nat.add_sub_cancel]
    have w10 : suM (y.2 0) arm (nI st) 0 1 10 = nI a := by
      unfold suM
      rw [pk_un (by decide), pk_us, q3, show nI a + 0 = nI a from Int32.add_zero _]
    refine RI_nums R (by omega) ?_ hA ⟨by rw [u 6 (by decide) (by decide) (by decide) (by decide) (by decide)]; exact b1, by rw [u 7 (by decide) (by decide) (by decide) (by decide) (by decide)]; exact b2, by rw [u 3 (by decide) (by decide) (by decide) (by decide) (by decide)]; exact b3, by rw [u 4 (by decide) (by decide) (by decide) (by decide) (by decide)]; exact b4, by rw [u 5 (by decide) (by decide) (by decide) (by decide) (by decide)]; exact b5, by rw [u 0 (by decide) (by decide) (by decide) (by decide) (by decide)]; exact isN_m b6 (by omega), ⟨z - 1, by omega, w2⟩, ⟨a, b0 + 1, by omega, by omega, w10, w9⟩, ⟨s + st, by omega, w11⟩⟩ rfl rfl (u 0 (by decide) (by decide) (by decide) (by decide) (by decide)) (u 3 (by decide) (by decide) (by decide) (by decide) (by decide)) (u 6 (by decide) (by decide) (by decide) (by decide) (by decide)) (u 7 (by decide) (by decide) (by decide) (by decide) (by decide)) (fun i h1 h2 => u i (by omega) (by omega) (by omega) (by omega) (by omega))
    refine rcN_v (rcN_S hC (k := 7) (by decide) (by decide) ((x.1 0).2.1 7 - 1)) ?_
    intro i h1 h2
    show suM (y.2 0) arm (nI st) 0 1 i = upd (suB (y.2 0) arm (nI st)) 2 ((x.1 0).2.1 7 - 1) i
    rw [R.n7]
    unfold suM
    by_cases e : i = 2
    · subst e; rw [pk_us, pk_us]
    · rw [pk_un e, pk_un e]
      by_cases e2 : i = 10
      · subst e2
        rw [pk_us, suB_o (by decide) (by decide) (by decide)]
        exact Int32.add_zero _
      · rw [pk_un e2]
end SUM
