/-! PLEAS: fewer than parties. -/
section SUM
variable {t : Nat} {x x2 : kK} {y : kY}
theorem RJ.k3 {hb : Nat} (R : RJ hb t (x.1 0) (y.2 0)) : Int32.toNatClampNeg ((x.1 0).2.1 3) = nP (y.2 0) := by rw [R.n3]
theorem RJ.k6 {hb : Nat} (R : RJ hb t (x.1 0) (y.2 0)) : Int32.toNatClampNeg ((x.1 0).2.1 6) = nL (y.2 0) := by rw [R.n6]
/-- what differs is not more than its places -/
theorem pg_le {n m : Nat} (f : Nat → Nat) (h1 : ∀ i, i < n → f i < m) (h2 : ∀ i j, i < n → j < n → f i = f j → i = j) : n ≤ m := by
  have sz : ∀ k, szF (fun _ => some 0) k = k := by
    intro k
    induction k with
    | zero => rfl
    | succ k ih => rw [szF, ih]; rfl
  have := szF_le (f := fun _ => some 0) (g := fun _ => some 0) (m := m) (n := n) f (fun p hp _ => ⟨h1 p hp, rfl⟩) (fun p q hp hq _ _ e => h2 p q hp hq e)
  rw [sz, sz] at this
  exact this
theorem pl_lt8 {hb : Nat} (R : RJ hb t (x.1 0) (y.2 0)) {q : Nat} (hq : q < 8) (h : ∀ l, l < nL (y.2 0) → y.2 0 (92 + 3 * l) ≠ nI q) : nL (y.2 0) < 8 := by
  have n8 := R.nL8
  have := pg_le (n := nL (y.2 0) + 1) (m := 8) (fun i => if i < nL (y.2 0) then (y.2 0 (92 + 3 * i)).toNatClampNeg else q) (fun i hi => by
    show (if i < nL (y.2 0) then (y.2 0 (92 + 3 * i)).toNatClampNeg else q) < 8
    split
    · exact (isN_cl (R.E.1 i (by omega)).1 (by decide)).2
    · exact hq) (fun i j hi hj e => by
    have e : (if i < nL (y.2 0) then (y.2 0 (92 + 3 * i)).toNatClampNeg else q) = (if j < nL (y.2 0) then (y.2 0 (92 + 3 * j)).toNatClampNeg else q) := e
    by_cases i1 : i < nL (y.2 0)
    · have ei := (isN_cl (R.E.1 i (by omega)).1 (by decide)).1
      rw [if_pos i1] at e
      by_cases j1 : j < nL (y.2 0)
      · have ej := (isN_cl (R.E.1 j (by omega)).1 (by decide)).1
        rw [if_pos j1] at e
        exact (R.E.2 j j1).2.2 i i1 (by rw [ei, ej, e])
      · rw [if_neg j1] at e
        exact absurd (by rw [ei, e]) (h i i1)
    · rw [if_neg i1] at e
      by_cases j1 : j < nL (y.2 0)
      · have ej := (isN_cl (R.E.1 j (by omega)).1 (by decide)).1
        rw [if_pos j1] at e
        exact absurd (by rw [ej, ← e]) (h j j1)
      · omega)
  omega
theorem noPl {hb : Nat} (R : RJ hb t (x.1 0) (y.2 0)) {a : Int32} (h : pFind ((x.1 0).2.2 1) a (Int32.toNatClampNeg ((x.1 0).2.1 6)) 0 = -1) : ∀ l, l < nL (y.2 0) → y.2 0 (92 + 3 * l) ≠ a := by
  intro p hp
  have h8 := R.nL8
  rcases pF_s (f := (x.1 0).2.2 1) (c := a) (k := Int32.toNatClampNeg ((x.1 0).2.1 6)) (j := 0) with ⟨-, n⟩ | ⟨i, -, i2, i3, e, -⟩
  · rw [← (R.L p hp).1]
    exact n p (Nat.zero_le _) (by rw [R.k6]; omega)
  · rw [e] at h
    have h2 : nI i < 0 := by rw [h]; decide
    have : i < nL (y.2 0) := by rw [R.k6] at i2; omega
    exact absurd h2 (nI_pos (by omega))
theorem RJ.rm1 {hb : Nat} (R : RJ hb t (x.1 0) (y.2 0)) : kRm1 (y.2 0) := by
  intro a ha hp
  have h8 := R.nP8
  have e8 := R.nL8
  unfold f_X12_isParty at ha
  rw [show f_X12_isIn a 0 ((y.2 0) 6 - 1) = f_X12_isIn a 0 (nI (nP (y.2 0)) - 1) by rw [← R.eP]] at ha
  rcases in_cs a (n := nP (y.2 0)) (by omega) with ⟨i1, -⟩ | ⟨-, q, hq, rfl⟩
  · exact absurd i1 ha
  · have e : poL (y.2 0) (nI q) (Int32.toNatClampNeg (y.2 0 7)) 0 = pFind ((x.1 0).2.2 1) (nI q) (Int32.toNatClampNeg ((x.1 0).2.1 6)) 0 := by
      rw [R.n6]
      exact po_pF R.nL8 (fun p hp => (R.L p hp).1) (Nat.zero_add _)
    rw [e] at hp
    have hp2 := (pF_lt (by rw [R.k6]; omega)).1 hp
    exact ⟨nL (y.2 0), pl_lt8 R (by omega) (noPl R hp2), R.eL⟩
end SUM
