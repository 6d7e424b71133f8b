/-! SUMMONS, on both sides. -/
/-- a flight changes its own numbers alone -/
def kF7 (x y : kY) : Prop := ∀ k, k ≠ 7 → k ≠ 8 → y.1 k = x.1 k
theorem kF7_t {x y z : kY} (h1 : kF7 x y) (h2 : kF7 y z) : kF7 x z := fun k a b => (h2 k a b).trans (h1 k a b)
theorem en_7 {x : kY} {w : Int32} : kF7 x (g_X12_enters x w) := by
  unfold g_X12_enters
  split
  · intro k h7 h8
    show upd (upd x.1 8 _) 7 _ k = x.1 k
    rw [pk_un h7, pk_un h8]
  · intro k h7 h8
    show upd x.1 8 _ k = x.1 k
    rw [pk_un h8]
theorem fiI_7 {a w : Int32} {k : Nat} : ∀ {x : kY} {j : Nat}, Sum.elim (fun y : kY × Int32 => kF7 x y.1) (fun y : kY => kF7 x y) (fiI a w k x j) := by
  induction k with
  | zero => intro x j; exact fun _ _ _ => rfl
  | succ k ih =>
    intro x j
    rw [fiI]
    split
    · exact en_7
    · have h := ih (x := g_X12_enters x w) (j := j + 1)
      revert h
      generalize fiI a w k (g_X12_enters x w) (j + 1) = z
      intro h
      cases z with
      | inl y => exact kF7_t en_7 h
      | inr y => exact kF7_t en_7 h
theorem fiL_7 {a : Int32} {k : Nat} : ∀ {x : kY} {j : Nat} {w : Int32}, Sum.elim (fun y : kY × Int32 => kF7 x y.1) (fun y : kY => kF7 x y) (fiL a k x j w) := by
  induction k with
  | zero => intro x j w; exact fun _ _ _ => rfl
  | succ k ih =>
    intro x j w
    have h1 := fiI_7 (a := a) (w := w) (k := Int32.toNatClampNeg (f_X12_arm a)) (x := x) (j := 0)
    rw [fiL]
    revert h1
    generalize fiI a w (Int32.toNatClampNeg (f_X12_arm a)) x 0 = z
    intro h1
    cases z with
    | inl y => exact h1
    | inr y =>
      simp only [Sum.elim_inr]
      have e : kF7 x y := h1
      have go : ∀ (q : kY) (w2 : Int32), kF7 x q → Sum.elim (fun y : kY × Int32 => kF7 x y.1) (fun y : kY => kF7 x y) (fiL a k q (j + 1) w2) := by
        intro q w2 e2
        have h9 := ih (x := q) (j := j + 1) (w := w2)
        revert h9
        generalize fiL a k q (j + 1) w2 = z
        intro h9
        cases z with
        | inl y => exact kF7_t e2 h9
        | inr y => exact kF7_t e2 h9
      split
      · split
        · exact go _ _ e
        · exact go _ _ e
      · split
        · exact kF7_t e en_7
        · split
          · exact go _ _ (kF7_t e en_7)
          · exact go _ _ (kF7_t e en_7)
theorem flies_7 {x : kY} {a : Int32} : kF7 x (g_X12_flies x a) := by
  have h0 : kF7 x (yS (yR (yS x 7 0) 4 (upd (x.2 4) 0 (x.2 0 3))) 8 0) := by
    intro k h7 h8
    show upd (upd x.1 7 0) 8 0 k = x.1 k
    rw [pk_un h8, pk_un h7]
  have h := fiL_7 (a := a) (k := 8) (x := yS (yR (yS x 7 0) 4 (upd (x.2 4) 0 (x.2 0 3))) 8 0) (j := 0) (w := a - a / 8 * 8)
  unfold g_X12_flies
  revert h
  generalize fiL a 8 (yS (yR (yS x 7 0) 4 (upd (x.2 4) 0 ((x.2 0) 3))) 8 0) 0 (a - a / 8 * 8) = z
  intro h
  cases z with
  | inl y => exact kF7_t h0 h
  | inr y => exact kF7_t h0 h
/-! what a throw enters -/
def suB (w : Nat → Int32) (arm st : Int32) : Nat → Int32 := upd (upd (upd w 1 (w 1 - arm)) 9 (w 9 + 1)) 11 (w 11 + st)
def suM (w : Nat → Int32) (arm st c h : Int32) : Nat → Int32 := upd (upd (suB w arm st) 10 (w 10 + c)) 2 (w 2 - h)
def suS0 (w : Nat → Int32) (arm st : Int32) : Nat → Int32 := upd (suB w arm st) 2 (w 2 - 1)
def suS1 (w : Nat → Int32) (arm st a1 : Int32) : Nat → Int32 := upd (suS0 w arm st) (Int32.toNatClampNeg (76 + 2 * a1 + 1)) (suS0 w arm st (Int32.toNatClampNeg (76 + 2 * a1 + 1)) + 1)
def suS2 (w : Nat → Int32) (arm st a1 : Int32) : Nat → Int32 := upd (suS1 w arm st a1) (Int32.toNatClampNeg (f_X12_pleaAt (w 7) 0)) a1
def suS3 (w : Nat → Int32) (arm st a1 : Int32) : Nat → Int32 := upd (suS2 w arm st a1) (Int32.toNatClampNeg (f_X12_pleaAt (w 7) 1)) (suS2 w arm st a1 0 + st / 4)
def suS4 (w : Nat → Int32) (arm st a1 : Int32) : Nat → Int32 := upd (suS3 w arm st a1) (Int32.toNatClampNeg (f_X12_pleaAt (w 7) 2)) arm
def suS (w : Nat → Int32) (arm st a1 : Int32) : Nat → Int32 := upd (suS4 w arm st a1) 7 (suS4 w arm st a1 7 + 1)
theorem i_r5 (a b c d e : Int32) : a + b - c - d - e = a + b - (c + e) - d := by
  apply Int32.toBitVec_inj.1
  simp only [Int32.toBitVec_add, Int32.toBitVec_sub]
  bv_omega
/-- the class's numbers behind a throw -/
def thN (c : kCo) (arm st : Int32) : kCo := cS (cS (cS (cS c 8 (c.2.1 8 - arm)) 10 (c.2.1 10 + arm)) 12 (c.2.1 12 + 1)) 14 (c.2.1 14 + st)
section SUM
variable {t : Nat} {x x2 : kK} {y : kY}
theorem thA (R : RI t (x.1 0) (y.2 0)) {arm st : Int32} : rcA (thN (x.1 0) arm st) := by
  show (x.1 0).2.1 8 - arm = 50 + (x.1 0).2.1 9 - ((x.1 0).2.1 10 + arm) - (x.1 0).2.1 11
  rw [← i_r5, ← R.A]
theorem thC (R : RI t (x.1 0) (y.2 0)) {arm st : Int32} : rcN (thN (x.1 0) arm st) (suB (y.2 0) arm st) := by
  unfold thN suB
  rw [R.n8, R.n12, R.n14]
  exact rcN_S (rcN_S (rcN_x (rcN_S R.N (k := 8) (by decide) (by decide) _) (k := 10) (by decide) _) (k := 12) (by decide) (by decide) _) (k := 14) (by decide) (by decide) _
theorem suB_o {w : Nat → Int32} {arm st : Int32} {i : Nat} (h1 : i ≠ 1) (h9 : i ≠ 9) (h11 : i ≠ 11) : suB w arm st i = w i := by
  unfold suB
  rw [pk_un h11, pk_un h9, pk_un h1]
theorem suM_o {w : Nat → Int32} {arm st c h : Int32} {i : Nat} (h1 : i ≠ 1) (h9 : i ≠ 9) (h11 : i ≠ 11) (h10 : i ≠ 10) (h2 : i ≠ 2) : suM w arm st c h i = w i := by
  unfold suM
  rw [pk_un h2, pk_un h10, suB_o h1 h9 h11]
/-- nobody is served -/
theorem RI_miss (R : RI t (x.1 0) (y.2 0)) {arm : Int32} {st : Nat} (hst : st ≤ 35) {b : Bool} (h0 : y.2 0 2 ≠ 0) : RI (t + 1) (if b = true then cS (thN (x.1 0) arm (nI st)) 13 ((x.1 0).2.1 13 + 1) else cS (thN (x.1 0) arm (nI st)) 7 ((x.1 0).2.1 7 - 1)) (suM (y.2 0) arm (nI st) (if b = true then 1 else 0) (if b = true then 0 else 1)) := by
  have hA := thA R (arm := arm) (st := nI st)
  have hC := thC R (arm := arm) (st := nI st)
  have u : ∀ i, i ≠ 1 → i ≠ 9 → i ≠ 11 → i ≠ 10 → i ≠ 2 → suM (y.2 0) arm (nI st) (if b = true then 1 else 0) (if b = true then 0 else 1) i = y.2 0 i := fun i h1 h9 h11 h10 h2 => suM_o h1 h9 h11 h10 h2
  obtain ⟨b1, b2, b3, b4, b5, b6, ⟨z, z1, z2⟩, ⟨a, b0, q1, q2, q3, q4⟩, ⟨s, s1, s2⟩⟩ := R.B
  have hz : 0 < z := by
    rcases Nat.eq_zero_or_pos z with q | q
    · subst q; exact absurd z2 h0
    · exact q
  have w9 : suM (y.2 0) arm (nI st) (if b = true then 1 else 0) (if b = true then 0 else 1) 9 = nI (b0 + 1) := by
    unfold suM suB
    rw [pk_un (by decide), pk_un (by decide), pk_un (by decide), pk_us, q4, nI_1]
  have w11 : suM (y.2 0) arm (nI st) (if b = true then 1 else 0) (if b = true then 0 else 1) 11 = nI (s + st) := by
    unfold suM suB
    rw [pk_un (by decide), pk_un (by decide), pk_us, s2, nI_add]
  cases b with
  | true =>
    simp only [if_true] at *
    have w2 : suM (y.2 0) arm (nI st) 1 0 2 = nI z := by
      unfold suM
      rw [pk_us, z2, show nI z - 0 = nI z from Int32.sub_zero _]
    have w10 : suM (y.2 0) arm (nI st) 1 0 10 = nI (a + 1) := by
      unfold suM
      rw [pk_un (by decide), pk_us, q3, nI_1]
    refine RI_nums R (by omega) ?_ hA ⟨by rw [u 6 (by decide) (by decide) (by decide) (by decide) (by decide)]; exact b1, by rw [u 7 (by decide) (by decide) (by decide) (by decide) (by decide)]; exact b2, by rw [u 3 (by decide) (by decide) (by decide) (by decide) (by decide)]; exact b3, by rw [u 4 (by decide) (by decide) (by decide) (by decide) (by decide)]; exact b4, by rw [u 5 (by decide) (by decide) (by decide) (by decide) (by decide)]; exact b5, by rw [u 0 (by decide) (by decide) (by decide) (by decide) (by decide)]; exact isN_m b6 (by omega), ⟨z, by omega, w2⟩, ⟨a + 1, b0 + 1, by omega, by omega, w10, w9⟩, ⟨s + st, by omega, w11⟩⟩ rfl rfl (u 0 (by decide) (by decide) (by decide) (by decide) (by decide)) (u 3 (by decide) (by decide) (by decide) (by decide) (by decide)) (u 6 (by decide) (by decide) (by decide) (by decide) (by decide)) (u 7 (by decide) (by decide) (by decide) (by decide) (by decide)) (fun i h1 h2 => u i (by omega) (by omega) (by omega) (by omega) (by omega))
    refine rcN_v (rcN_S hC (k := 13) (by decide) (by decide) ((x.1 0).2.1 13 + 1)) ?_
    intro i h1 h2
    show suM (y.2 0) arm (nI st) 1 0 i = upd (suB (y.2 0) arm (nI st)) 10 ((x.1 0).2.1 13 + 1) i
    rw [R.n13]
    by_cases e : i = 2
    · subst e
      rw [w2, pk_un (by decide), suB_o (by decide) (by decide) (by decide), z2]
    · unfold suM
      rw [pk_un e]
  | false =>
    simp only [Bool.false_eq_true, if_false] at *
    have w2 : suM (y.2 0) arm (nI st) 0 1 2 = nI (z - 1) := by
      unfold suM
      rw [pk_us, z2, show z = z - 1 + 1 by omega, nI_pred, Nat.add_sub_cancel]
    have w10 : suM (y.2 0) arm (nI st) 0 1 10 = nI a := by
      unfold suM
      rw [pk_un (by decide), pk_us, q3, show nI a + 0 = nI a from Int32.add_zero _]
    refine RI_nums R (by omega) ?_ hA ⟨by rw [u 6 (by decide) (by decide) (by decide) (by decide) (by decide)]; exact b1, by rw [u 7 (by decide) (by decide) (by decide) (by decide) (by decide)]; exact b2, by rw [u 3 (by decide) (by decide) (by decide) (by decide) (by decide)]; exact b3, by rw [u 4 (by decide) (by decide) (by decide) (by decide) (by decide)]; exact b4, by rw [u 5 (by decide) (by decide) (by decide) (by decide) (by decide)]; exact b5, by rw [u 0 (by decide) (by decide) (by decide) (by decide) (by decide)]; exact isN_m b6 (by omega), ⟨z - 1, by omega, w2⟩, ⟨a, b0 + 1, by omega, by omega, w10, w9⟩, ⟨s + st, by omega, w11⟩⟩ rfl rfl (u 0 (by decide) (by decide) (by decide) (by decide) (by decide)) (u 3 (by decide) (by decide) (by decide) (by decide) (by decide)) (u 6 (by decide) (by decide) (by decide) (by decide) (by decide)) (u 7 (by decide) (by decide) (by decide) (by decide) (by decide)) (fun i h1 h2 => u i (by omega) (by omega) (by omega) (by omega) (by omega))
    refine rcN_v (rcN_S hC (k := 7) (by decide) (by decide) ((x.1 0).2.1 7 - 1)) ?_
    intro i h1 h2
    show suM (y.2 0) arm (nI st) 0 1 i = upd (suB (y.2 0) arm (nI st)) 2 ((x.1 0).2.1 7 - 1) i
    rw [R.n7]
    unfold suM
    by_cases e : i = 2
    · subst e; rw [pk_us, pk_us]
    · rw [pk_un e, pk_un e]
      by_cases e2 : i = 10
      · subst e2
        rw [pk_us, suB_o (by decide) (by decide) (by decide)]
        exact Int32.add_zero _
      · rw [pk_un e2]
/-- what differs is not more than its places -/
theorem pg_le {n m : Nat} (f : Nat → Nat) (h1 : ∀ i, i < n → f i < m) (h2 : ∀ i j, i < n → j < n → f i = f j → i = j) : n ≤ m := by
  have sz : ∀ k, szF (fun _ => some 0) k = k := by
    intro k
    induction k with
    | zero => rfl
    | succ k ih => rw [szF, ih]; rfl
  have := szF_le (f := fun _ => some 0) (g := fun _ => some 0) (m := m) (n := n) f (fun p hp _ => ⟨h1 p hp, rfl⟩) (fun p q hp hq _ _ e => h2 p q hp hq e)
  rw [sz, sz] at this
  exact this
theorem pl_lt8 {hb : Nat} (R : RJ hb t (x.1 0) (y.2 0)) {q : Nat} (hq : q < 8) (h : ∀ l, l < nL (y.2 0) → y.2 0 (92 + 3 * l) ≠ nI q) : nL (y.2 0) < 8 := by
  have n8 := R.nL8
  have := pg_le (n := nL (y.2 0) + 1) (m := 8) (fun i => if i < nL (y.2 0) then (y.2 0 (92 + 3 * i)).toNatClampNeg else q) (fun i hi => by
    show (if i < nL (y.2 0) then (y.2 0 (92 + 3 * i)).toNatClampNeg else q) < 8
    split
    · exact (isN_cl (R.E.1 i (by omega)).1 (by decide)).2
    · exact hq) (fun i j hi hj e => by
    have e : (if i < nL (y.2 0) then (y.2 0 (92 + 3 * i)).toNatClampNeg else q) = (if j < nL (y.2 0) then (y.2 0 (92 + 3 * j)).toNatClampNeg else q) := e
    by_cases i1 : i < nL (y.2 0)
    · have ei := (isN_cl (R.E.1 i (by omega)).1 (by decide)).1
      rw [if_pos i1] at e
      by_cases j1 : j < nL (y.2 0)
      · have ej := (isN_cl (R.E.1 j (by omega)).1 (by decide)).1
        rw [if_pos j1] at e
        exact (R.E.2 j j1).2.2 i i1 (by rw [ei, ej, e])
      · rw [if_neg j1] at e
        exact absurd (by rw [ei, e]) (h i i1)
    · rw [if_neg i1] at e
      by_cases j1 : j < nL (y.2 0)
      · have ej := (isN_cl (R.E.1 j (by omega)).1 (by decide)).1
        rw [if_pos j1] at e
        exact absurd (by rw [ej, ← e]) (h j j1)
      · omega)
  omega
theorem noPl {hb : Nat} (R : RJ hb t (x.1 0) (y.2 0)) {a : Int32} (h : pFind ((x.1 0).2.2 1) a (Int32.toNatClampNeg ((x.1 0).2.1 6)) 0 = -1) : ∀ l, l < nL (y.2 0) → y.2 0 (92 + 3 * l) ≠ a := by
  intro p hp
  have h8 := R.nL8
  rcases pF_s (f := (x.1 0).2.2 1) (c := a) (k := Int32.toNatClampNeg ((x.1 0).2.1 6)) (j := 0) with ⟨-, n⟩ | ⟨i, -, i2, i3, e, -⟩
  · rw [← (R.L p hp).1]
    exact n p (Nat.zero_le _) (by rw [R.n6]; omega)
  · rw [e] at h
    have h2 : nI i < 0 := by rw [h]; decide
    have : i < nL (y.2 0) := by rw [R.n6] at i2; omega
    exact absurd h2 (nI_pos (by omega))
theorem RJ.rm1 {hb : Nat} (R : RJ hb t (x.1 0) (y.2 0)) : kRm1 (y.2 0) := by
  intro a ha hp
  have h8 := R.nP8
  have e8 := R.nL8
  unfold f_X12_isParty at ha
  rw [show f_X12_isIn a 0 ((y.2 0) 6 - 1) = f_X12_isIn a 0 (nI (nP (y.2 0)) - 1) by rw [← R.eP]] at ha
  rcases in_cs a (n := nP (y.2 0)) (by omega) with ⟨i1, -⟩ | ⟨-, q, hq, rfl⟩
  · exact absurd i1 ha
  · have e : poL (y.2 0) (nI q) (Int32.toNatClampNeg (y.2 0 7)) 0 = pFind ((x.1 0).2.2 1) (nI q) (Int32.toNatClampNeg ((x.1 0).2.1 6)) 0 := by
      rw [R.n6]
      exact po_pF R.nL8 (fun p hp => (R.L p hp).1) (Nat.zero_add _)
    rw [e] at hp
    have hp2 := (pF_lt (by rw [R.n6]; omega)).1 hp
    exact ⟨nL (y.2 0), pl_lt8 R (by omega) (noPl R hp2), R.eL⟩
/-- a party is served -/
theorem RI_served (R : RI t (x.1 0) (y.2 0)) (ht : t < 2 ^ 20) {q : Nat} (hq : q < nP (y.2 0)) {arm : Nat} (ha : arm < 5) {st : Nat} (hst : st ≤ 35) (h0 : y.2 0 2 ≠ 0) (hn : ∀ l, l < nL (y.2 0) → y.2 0 (92 + 3 * l) ≠ nI q) {c : kCo}
    (hc1 : c.1 = (x.1 0).1) (hc0 : c.2.2 0 = (x.1 0).2.2 0) (hc4 : c.2.2 4 = upd ((x.1 0).2.2 4) q ((x.1 0).2.2 4 q + 1)) (hn1 : c.2.1 = (cS (cS (thN (x.1 0) (nI arm) (nI st)) 7 ((x.1 0).2.1 7 - 1)) 6 ((x.1 0).2.1 6 + 1)).2.1) (hr : ∀ i, kRow c i = if i = nL (y.2 0) then (nI q, (x.1 0).2.1 4 + nI st / 4, nI arm) else kRow (x.1 0) i) : RI (t + 1) c (suS (y.2 0) (nI arm) (nI st) (nI q)) := by
  have n8 := R.nP8
  have l8 := pl_lt8 R (q := q) (by omega) hn
  have hA := thA R (arm := nI arm) (st := nI st)
  have hC := thC R (arm := nI arm) (st := nI st)
  have eL := R.eL
  generalize hm : nL (y.2 0) = m at *
  have k1 : Int32.toNatClampNeg (76 + 2 * nI q + 1) = 76 + 2 * q + 1 := by
    rw [show (2 : Int32) = nI 2 from rfl, pk_mul, show (76 : Int32) = nI 76 from rfl, nI_add, nI_1, nI_clamp (by omega)]
  obtain ⟨b1, b2, b3, b4, b5, ⟨H, hH, eH⟩, ⟨z, z1, z2⟩, ⟨a, b0, q1, q2, q3, q4⟩, ⟨s, s1, s2⟩⟩ := R.B
  have hz : 0 < z := by
    rcases Nat.eq_zero_or_pos z with q | q
    · subst q; exact absurd z2 h0
    · exact q
  -- the row behind it, place by place
  have w : suS (y.2 0) (nI arm) (nI st) (nI q) = upd (upd (upd (upd (upd (suS0 (y.2 0) (nI arm) (nI st)) (76 + 2 * q + 1) (y.2 0 (76 + 2 * q + 1) + 1)) (92 + 3 * m) (nI q)) (92 + 3 * m + 1) (nI (H + st / 4))) (92 + 3 * m + 2) (nI arm)) 7 (nI (m + 1)) := by
    have s0 : ∀ i, i ≠ 1 → i ≠ 9 → i ≠ 11 → i ≠ 2 → suS0 (y.2 0) (nI arm) (nI st) i = y.2 0 i := fun i h1 h9 h11 h2 => by unfold suS0; rw [pk_un h2, suB_o h1 h9 h11]
    have e1 : suS1 (y.2 0) (nI arm) (nI st) (nI q) = upd (suS0 (y.2 0) (nI arm) (nI st)) (76 + 2 * q + 1) (y.2 0 (76 + 2 * q + 1) + 1) := by
      unfold suS1
      rw [k1, s0 _ (by omega) (by omega) (by omega) (by omega)]
    have e2 : suS2 (y.2 0) (nI arm) (nI st) (nI q) = upd (suS1 (y.2 0) (nI arm) (nI st) (nI q)) (92 + 3 * m) (nI q) := by
      unfold suS2
      rw [eL, pl_0 (by omega)]
    have v0 : suS2 (y.2 0) (nI arm) (nI st) (nI q) 0 = nI H := by
      rw [e2, pk_un (by omega), e1, pk_un (by omega), s0 0 (by decide) (by decide) (by decide) (by decide), eH]
    have e3 : suS3 (y.2 0) (nI arm) (nI st) (nI q) = upd (suS2 (y.2 0) (nI arm) (nI st) (nI q)) (92 + 3 * m + 1) (nI (H + st / 4)) := by
      unfold suS3
      rw [eL, pl_1 (by omega), v0, show (4 : Int32) = nI 4 from rfl, pk_div (by omega) (by decide) (by decide), nI_add]
    have e4 : suS4 (y.2 0) (nI arm) (nI st) (nI q) = upd (suS3 (y.2 0) (nI arm) (nI st) (nI q)) (92 + 3 * m + 2) (nI arm) := by
      unfold suS4
      rw [eL, pl_2 (by omega)]
    have v7 : suS4 (y.2 0) (nI arm) (nI st) (nI q) 7 = nI m := by
      rw [e4, pk_un (by omega), e3, pk_un (by omega), e2, pk_un (by omega), e1, pk_un (by omega), s0 7 (by decide) (by decide) (by decide) (by decide), eL]
    unfold suS
    rw [v7, nI_1, e4, e3, e2, e1]
  rw [w]
  have o : ∀ i, i ≠ 1 → i ≠ 9 → i ≠ 11 → i ≠ 2 → i ≠ 7 → i ≠ 76 + 2 * q + 1 → i ≠ 92 + 3 * m → i ≠ 92 + 3 * m + 1 → i ≠ 92 + 3 * m + 2 → upd (upd (upd (upd (upd (suS0 (y.2 0) (nI arm) (nI st)) (76 + 2 * q + 1) (y.2 0 (76 + 2 * q + 1) + 1)) (92 + 3 * m) (nI q)) (92 + 3 * m + 1) (nI (H + st / 4))) (92 + 3 * m + 2) (nI arm)) 7 (nI (m + 1)) i = y.2 0 i := by
    intro i h1 h9 h11 h2 h7 hs p0 p1 p2
    rw [pk_un h7, pk_un p2, pk_un p1, pk_un p0, pk_un hs]
    unfold suS0
    rw [pk_un h2, suB_o h1 h9 h11]
  have w7 : upd (upd (upd (upd (upd (suS0 (y.2 0) (nI arm) (nI st)) (76 + 2 * q + 1) (y.2 0 (76 + 2 * q + 1) + 1)) (92 + 3 * m) (nI q)) (92 + 3 * m + 1) (nI (H + st / 4))) (92 + 3 * m + 2) (nI arm)) 7 (nI (m + 1)) 7 = nI (m + 1) := pk_us
  have wp0 : upd (upd (upd (upd (upd (suS0 (y.2 0) (nI arm) (nI st)) (76 + 2 * q + 1) (y.2 0 (76 + 2 * q + 1) + 1)) (92 + 3 * m) (nI q)) (92 + 3 * m + 1) (nI (H + st / 4))) (92 + 3 * m + 2) (nI arm)) 7 (nI (m + 1)) (92 + 3 * m) = nI q := by rw [pk_un (by omega), pk_un (by omega), pk_un (by omega), pk_us]
  have wp1 : upd (upd (upd (upd (upd (suS0 (y.2 0) (nI arm) (nI st)) (76 + 2 * q + 1) (y.2 0 (76 + 2 * q + 1) + 1)) (92 + 3 * m) (nI q)) (92 + 3 * m + 1) (nI (H + st / 4))) (92 + 3 * m + 2) (nI arm)) 7 (nI (m + 1)) (92 + 3 * m + 1) = nI (H + st / 4) := by rw [pk_un (by omega), pk_un (by omega), pk_us]
  have wp2 : upd (upd (upd (upd (upd (suS0 (y.2 0) (nI arm) (nI st)) (76 + 2 * q + 1) (y.2 0 (76 + 2 * q + 1) + 1)) (92 + 3 * m) (nI q)) (92 + 3 * m + 1) (nI (H + st / 4))) (92 + 3 * m + 2) (nI arm)) 7 (nI (m + 1)) (92 + 3 * m + 2) = nI arm := by rw [pk_un (by omega), pk_us]
  have ws : upd (upd (upd (upd (upd (suS0 (y.2 0) (nI arm) (nI st)) (76 + 2 * q + 1) (y.2 0 (76 + 2 * q + 1) + 1)) (92 + 3 * m) (nI q)) (92 + 3 * m + 1) (nI (H + st / 4))) (92 + 3 * m + 2) (nI arm)) 7 (nI (m + 1)) (76 + 2 * q + 1) = y.2 0 (76 + 2 * q + 1) + 1 := by rw [pk_un (by omega), pk_un (by omega), pk_un (by omega), pk_un (by omega), pk_us]
  have lo : ∀ i, i < 76 → i ≠ 7 → upd (upd (upd (upd (upd (suS0 (y.2 0) (nI arm) (nI st)) (76 + 2 * q + 1) (y.2 0 (76 + 2 * q + 1) + 1)) (92 + 3 * m) (nI q)) (92 + 3 * m + 1) (nI (H + st / 4))) (92 + 3 * m + 2) (nI arm)) 7 (nI (m + 1)) i = suS0 (y.2 0) (nI arm) (nI st) i := by
    intro i hi h7
    rw [pk_un h7, pk_un (by omega), pk_un (by omega), pk_un (by omega), pk_un (by omega)]
  generalize upd (upd (upd (upd (upd (suS0 (y.2 0) (nI arm) (nI st)) (76 + 2 * q + 1) (y.2 0 (76 + 2 * q + 1) + 1)) (92 + 3 * m) (nI q)) (92 + 3 * m + 1) (nI (H + st / 4))) (92 + 3 * m + 2) (nI arm)) 7 (nI (m + 1)) = v at *
  have w2 : v 2 = nI (z - 1) := by
    rw [lo 2 (by decide) (by decide)]
    unfold suS0
    rw [pk_us, z2, show z = z - 1 + 1 by omega, nI_pred, Nat.add_sub_cancel]
  have w9 : v 9 = nI (b0 + 1) := by
    rw [lo 9 (by decide) (by decide)]
    unfold suS0 suB
    rw [pk_un (by decide), pk_un (by decide), pk_us, q4, nI_1]
  have w11 : v 11 = nI (s + st) := by
    rw [lo 11 (by decide) (by decide)]
    unfold suS0 suB
    rw [pk_un (by decide), pk_us, s2, nI_add]
  have nv : nL v = m + 1 := by rw [nL, w7, nI_clamp (by omega)]
  have v0 : v 0 = y.2 0 0 := o 0 (by decide) (by decide) (by decide) (by decide) (by decide) (by omega) (by omega) (by omega) (by omega)
  have v3 : v 3 = y.2 0 3 := o 3 (by decide) (by decide) (by decide) (by decide) (by decide) (by omega) (by omega) (by omega) (by omega)
  have v6 : v 6 = y.2 0 6 := o 6 (by decide) (by decide) (by decide) (by decide) (by decide) (by omega) (by omega) (by omega) (by omega)
  have ev : vEq (y.2 0) v 12 76 := fun i h1 h2 => o i (by omega) (by omega) (by omega) (by omega) (by omega) (by omega) (by omega) (by omega) (by omega)
  have ec : ∀ p, v (76 + 2 * p) = y.2 0 (76 + 2 * p) ∨ 8 ≤ p := by
    intro p
    rcases Nat.lt_or_ge p 8 with h | h
    · exact Or.inl (o _ (by omega) (by omega) (by omega) (by omega) (by omega) (by omega) (by omega) (by omega) (by omega))
    · exact Or.inr h
  have er : ∀ l, l ≠ m → l < 8 → vRow v l = vRow (y.2 0) l := by
    intro l hl h8
    unfold vRow
    rw [o _ (by omega) (by omega) (by omega) (by omega) (by omega) (by omega) (by omega) (by omega) (by omega), o _ (by omega) (by omega) (by omega) (by omega) (by omega) (by omega) (by omega) (by omega) (by omega), o _ (by omega) (by omega) (by omega) (by omega) (by omega) (by omega) (by omega) (by omega) (by omega)]
  have em : vRow v m = (nI q, nI (H + st / 4), nI arm) := by unfold vRow; rw [wp0, wp1, wp2]
  have tc : ∀ z, isN z 64 → f_X12_isTree v z = f_X12_isTree (y.2 0) z := fun z hz => isTree_c hz ev
  refine ⟨⟨?_, rcT_c R.T hc1 ev, ?_, ?_, ?_⟩, ?_, ?_, ?_, ?_⟩
  · have h1 := rcN_S (rcN_S hC (k := 7) (by decide) (by decide) ((x.1 0).2.1 7 - 1)) (k := 6) (by decide) (by decide) ((x.1 0).2.1 6 + 1)
    refine rcN_c (rcN_v h1 ?_) hn1
    intro i h1 h2
    show v i = upd (upd (suB (y.2 0) (nI arm) (nI st)) 2 ((x.1 0).2.1 7 - 1)) 7 ((x.1 0).2.1 6 + 1) i
    by_cases e : i = 7
    · subst e; rw [pk_us, w7, R.n6, eL, nI_1]
    · rw [pk_un e, lo i (by omega) e, R.n7]
      rfl
  · have RP := R.P
    unfold rcP at RP ⊢
    rw [nP, v6, hc0, hc4]
    refine ⟨fun p hp => ?_, fun p h1 h2 => ?_⟩
    · have hp2 : p < nP (y.2 0) := hp
      rcases ec p with e | e
      · rw [e]
        refine ⟨(RP.1 p hp).1, ?_⟩
        by_cases e2 : p = q
        · subst e2
          rw [pk_us, ws, (RP.1 p hp).2]
        · rw [pk_un e2, o _ (by omega) (by omega) (by omega) (by omega) (by omega) (by omega) (by omega) (by omega) (by omega)]
          exact (RP.1 p hp).2
      · omega
    · have h2 : nP (y.2 0) ≤ p := h2
      rw [pk_un (by omega)]
      exact RP.2 p h1 h2
  · refine rcL_i.2 (fun l hl => ?_)
    rw [nv] at hl
    rw [hr]
    by_cases e : l = m
    · subst e
      rw [if_pos rfl, em, R.n4, eH, show (4 : Int32) = nI 4 from rfl, pk_div (by omega) (by decide) (by decide), nI_add]
    · rw [if_neg e, er l e (by omega)]
      exact rcL_i.1 R.L l (by omega)
  · unfold rcA
    rw [hn1]
    exact hA
  · exact ⟨by rw [v6]; exact b1, ⟨m + 1, by omega, w7⟩, by rw [v3]; exact b3, by rw [o 4 (by decide) (by decide) (by decide) (by decide) (by decide) (by omega) (by omega) (by omega) (by omega)]; exact b4, by rw [o 5 (by decide) (by decide) (by decide) (by decide) (by decide) (by omega) (by omega) (by omega) (by omega)]; exact b5, by rw [v0]; exact ⟨H, by omega, eH⟩, ⟨z - 1, by omega, w2⟩, ⟨a, b0 + 1, by omega, by omega, by rw [o 10 (by decide) (by decide) (by decide) (by decide) (by decide) (by omega) (by omega) (by omega) (by omega)]; exact q3, w9⟩, ⟨s + st, by omega, w11⟩⟩
  · intro p hp
    rcases ec p with e | e
    · rw [e]; exact R.Q p hp
    · omega
  · have RD := R.D
    unfold vD at RD ⊢
    rw [nP, v6, v3, tc _ b3]
    refine ⟨RD.1, fun p hp => ?_⟩
    have hp2 : p < nP (y.2 0) := hp
    rcases ec p with e | e
    · rw [e, tc _ (R.Q p (by omega))]
      refine ⟨(RD.2 p hp).1, (RD.2 p hp).2.1, fun r hr2 e2 => (RD.2 p hp).2.2 r hr2 ?_⟩
      have hr3 : r < nP (y.2 0) := hr2
      rcases ec r with e3 | e3
      · rw [← e3]; exact e2
      · omega
    · omega
  · have RE := R.E
    have hv0 : (y.2 0 0).toNatClampNeg = H := by rw [eH, nI_clamp (by omega)]
    have rr : ∀ {i} {a b c : Int32}, vRow v i = (a, b, c) → v (92 + 3 * i) = a ∧ v (92 + 3 * i + 1) = b ∧ v (92 + 3 * i + 2) = c := by
      intro i a b c z
      obtain ⟨z1, z2⟩ := Prod.mk.inj z
      obtain ⟨z2, z3⟩ := Prod.mk.inj z2
      exact ⟨z1, z2, z3⟩
    refine ⟨fun l hl => ?_, fun l hl => ?_⟩
    · by_cases e : l = m
      · subst e
        rw [wp0, wp1, wp2]
        exact ⟨⟨q, by omega, rfl⟩, ⟨H + st / 4, by omega, rfl⟩, ⟨arm, ha, rfl⟩⟩
      · obtain ⟨r1, r2, r3⟩ := rr (er l e hl)
        rw [r1, r2, r3]
        exact ⟨(RE.1 l hl).1, isN_m (RE.1 l hl).2.1 (by omega), (RE.1 l hl).2.2⟩
    · rw [nv] at hl
      rw [v0, hv0]
      have par : ∀ j, j < m → v (92 + 3 * j) = y.2 0 (92 + 3 * j) := fun j hj => (rr (er j (by omega) (by omega))).1
      by_cases e : l = m
      · subst e
        rw [hF, wp1, nI_clamp (by omega), wp0]
        refine ⟨by omega, by omega, fun j hj z => ?_⟩
        rw [nv] at hj
        by_cases e2 : j = l
        · exact e2
        · rw [par j (by omega)] at z
          exact absurd z (hn j (by omega))
      · have lm : l < m := by omega
        have h2 := RE.2 l (by rw [hm]; exact lm)
        rw [hv0] at h2
        rw [hF, (rr (er l e (by omega))).2.1, par l lm]
        refine ⟨h2.1, h2.2.1, fun j hj z => ?_⟩
        rw [nv] at hj
        by_cases e2 : j = m
        · subst e2
          rw [wp0] at z
          exact absurd z.symm (hn l lm)
        · rw [par j (by omega)] at z
          exact h2.2.2 j (by rw [hm]; omega) z
end SUM
