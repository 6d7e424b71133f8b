/-! NUMBERS OF PARTIES, PLEAS, CELLS: in range or not, on both sides alike. -/
theorem z10 : ¬ (1 : Int32) = 0 := by decide
theorem z40 : ¬ (4 : Int32) = 0 := by decide
theorem in_cs (a : Int32) {n : Nat} (hn : n < 2 ^ 30) : (f_X12_isIn a 0 (nI n - 1) = 0 ∧ (a < 0 ∨ nI n ≤ a)) ∨ (f_X12_isIn a 0 (nI n - 1) = 1 ∧ ∃ j, j < n ∧ a = nI j) := by
  have e : (nI n - 1).toInt = (n : Int) - 1 := pk_sub_toInt (a := n) (b := 1) hn (by omega)
  unfold f_X12_isIn
  rcases pk_ix a (n := n) (by omega) with h | h | ⟨j, hj, rfl⟩
  · left; rw [if_pos h]; exact ⟨rfl, Or.inl h⟩
  · left
    refine ⟨?_, Or.inr h⟩
    have h2 := Int32.le_iff_toInt_le.1 h
    rw [nI_toInt (by omega)] at h2
    split
    · rfl
    · rw [if_pos]
      rw [Int32.lt_iff_toInt_lt, e]
      omega
  · right
    rw [if_neg (nI_pos (by omega)), if_neg]
    · exact ⟨rfl, j, hj, rfl⟩
    · rw [Int32.lt_iff_toInt_lt, e, nI_toInt (by omega)]
      omega
theorem out_n {a : Int32} {n : Nat} (hn : n < 2 ^ 30) (h : a < 0 ∨ nI n ≤ a) : ∀ j, j < n → a ≠ nI j := by
  intro j hj e
  subst e
  rcases h with h | h
  · exact nI_pos (by omega) h
  · exact nI_ge hj (by omega) h
theorem hpQ_f {a m : Int32} {n : Nat} (e : m = nI n) (hn : n < 2 ^ 30) (h : a < 0 ∨ nI n ≤ a) : b2i (decide (0 ≤ a ∧ a < m)) = 0 := by
  subst e
  rw [decide_eq_false]
  · rfl
  · intro z
    have z1 := Int32.le_iff_toInt_le.1 z.1
    have z2 := Int32.lt_iff_toInt_lt.1 z.2
    rcases h with h | h
    · have h := Int32.lt_iff_toInt_lt.1 h
      omega
    · have h := Int32.le_iff_toInt_le.1 h
      omega
theorem hpQ_t {m : Int32} {n j : Nat} (e : m = nI n) (hn : n < 2 ^ 30) (h : j < n) : b2i (decide (0 ≤ nI j ∧ nI j < m)) = 1 := by
  subst e
  rw [decide_eq_true]
  · rfl
  · exact ⟨nI_pos' (by omega), nI_lt h (by omega)⟩
theorem hl_f {x : kK} {a : Int32} {n : Nat} (e : (x.1 0).2.1 6 = nI n) (h : a < 0 ∨ nI n ≤ a) : f_X3_hasPlea x a = 0 := by
  unfold f_X3_hasPlea
  rw [e]
  rcases h with h | h
  · rw [if_pos h]
  · rw [if_pos h]
    split <;> rfl
theorem hl_t {x : kK} {n j : Nat} (e : (x.1 0).2.1 6 = nI n) (hn : n < 2 ^ 30) (h : j < n) : f_X3_hasPlea x (nI j) = 1 := by
  unfold f_X3_hasPlea
  rw [e, if_neg (nI_pos (by omega)), if_neg (nI_ge h (by omega))]
theorem isIn_7 (a : Int32) : f_X12_isIn a 0 7 = f_X12_isIn a 0 (nI 8 - 1) := by rw [show (7 : Int32) = nI 8 - 1 by decide]
theorem ce_cs (a b : Int32) : (f_X11_isCell a b = 0 ∧ f_X12_isCell a b = 0) ∨ (f_X11_isCell a b = 1 ∧ f_X12_isCell a b = 1 ∧ ∃ p q, p < 8 ∧ q < 8 ∧ a = nI p ∧ b = nI q ∧ 8 * b + a = nI (8 * q + p)) := by
  unfold f_X11_isCell f_X12_isCell
  rw [isIn_7, isIn_7, show (8 : Int32) = nI 8 from rfl]
  rcases in_cs a (n := 8) (by omega) with ⟨e1, h1⟩ | ⟨e1, p, hp, rfl⟩
  · left
    rw [e1]
    refine ⟨?_, by simp⟩
    rcases h1 with h1 | h1
    · rw [if_pos h1]
    · rw [if_pos h1]; split <;> rfl
  · rw [if_neg (nI_pos (by omega)), if_neg (nI_ge hp (by omega)), e1]
    rcases in_cs b (n := 8) (by omega) with ⟨e2, h2⟩ | ⟨e2, q, hq, rfl⟩
    · left
      rw [e2]
      refine ⟨?_, by simp⟩
      rcases h2 with h2 | h2
      · rw [if_pos h2]
      · rw [if_pos h2]; split <;> rfl
    · right
      rw [if_neg (nI_pos (by omega)), if_neg (nI_ge hq (by omega)), e2]
      refine ⟨rfl, by simp, p, q, hp, hq, rfl, rfl, ?_⟩
      rw [pk_mul, nI_add]
theorem th_cs (a : Int32) : (f_X11_isThrow a = 0 ∧ f_X12_isIn a 0 63 = 0) ∨ (f_X11_isThrow a = 1 ∧ f_X12_isIn a 0 63 = 1 ∧ ∃ p, p < 64 ∧ a = nI p) := by
  unfold f_X11_isThrow
  rw [show (63 : Int32) = nI 64 - 1 by decide, show (64 : Int32) = nI 64 from rfl]
  rcases in_cs a (n := 64) (by omega) with ⟨e1, h1⟩ | ⟨e1, p, hp, rfl⟩
  · left
    refine ⟨?_, e1⟩
    rcases h1 with h1 | h1
    · rw [if_pos h1]
    · rw [if_pos h1]; split <;> rfl
  · right
    rw [if_neg (nI_pos (by omega)), if_neg (nI_ge hp (by omega))]
    exact ⟨rfl, e1, p, hp, rfl⟩
/-! what a check says on both sides -/
def chOk (x : kK) (y : kY) (f : Int32) (x1 : kK) (y1 : kY) (code : Int32 → Int32) : Prop :=
  (f = 0 ∧ x1 = x ∧ y1.1 0 = 0 ∧ y1.1 4 = y.1 4 ∧ y1.1 5 = y.1 5) ∨ (f ≠ 0 ∧ y1.1 0 = code f ∧ code f ≠ 0 ∧ y1.2 0 = y.2 0 ∧ ((x1 = x ∧ y1.1 4 = y.1 4 ∧ y1.1 5 = y.1 5) ∨ ∃ r d, f = 4 ∧ x1 = g_X11_refuse x r d ∧ y1.1 4 = r ∧ y1.1 5 = d ∧ r ≠ 0))
theorem ch_fail {x : kK} {y : kY} {f c : Int32} {code : Int32 → Int32} (hf : f ≠ 0) (hc : code f = c) (h0 : c ≠ 0) : chOk x y f x (g_X12_fail y c) code :=
  Or.inr ⟨hf, hc.symm, by rw [hc]; exact h0, rfl, Or.inl ⟨rfl, rfl, rfl⟩⟩
theorem ch_ref {x : kK} {y : kY} {c r d : Int32} {code : Int32 → Int32} (hc : code 4 = c) (h0 : c ≠ 0) (hr : r ≠ 0) : chOk x y 4 (g_X11_refuse x r d) (g_X12_refuses y c r d) code :=
  Or.inr ⟨by decide, hc.symm, by rw [hc]; exact h0, rfl, Or.inr ⟨r, d, rfl, rfl, rfl, rfl, hr⟩⟩
theorem ch_ref2 {x : kK} {y : kY} {c z r d : Int32} {code : Int32 → Int32} (hc : code 4 = c) (h0 : c ≠ 0) (hr : r ≠ 0) : chOk x y 4 (g_X11_refuse x r d) (g_X12_refuses (yS y 0 z) c r d) code :=
  Or.inr ⟨by decide, hc.symm, by rw [hc]; exact h0, rfl, Or.inr ⟨r, d, rfl, rfl, rfl, rfl, hr⟩⟩
/-- the codes of the methods: the first exception named is 1 and so on -/
def cdA (f : Int32) : Int32 := if f = 1 then 1 else if f = 4 then 2 else 0
def cdB (f : Int32) : Int32 := if f = 1 then 1 else if f = 3 then 2 else if f = 4 then 3 else 0
def cdC (f : Int32) : Int32 := if f = 1 then 1 else if f = 2 then 2 else if f = 4 then 3 else 0
def cdD (f : Int32) : Int32 := if f = 2 then 1 else if f = 3 then 2 else 0
/-! trees, the party and the bench in a cell -/
section ACT
variable {t : Nat} {x : kK} {y : kY}
theorem tree_eq (R : RI t (x.1 0) (y.2 0)) {q : Nat} (hq : q < 64) : f_X12_isTree (y.2 0) (nI q) = b2i (bitA (x.1 0).1 (nI q)) := by
  rw [isTree_at hq, bitA_tb hq, R.T q hq]
  cases tb (x.1 0).1 q <;> rfl
theorem stand_eq (R : RI t (x.1 0) (y.2 0)) {a : Int32} : sdL (y.2 0) a (Int32.toNatClampNeg (y.2 0 6)) 0 = pFind ((x.1 0).2.2 0) a (Int32.toNatClampNeg ((x.1 0).2.1 3)) 0 := by
  rw [R.n3]
  exact sd_pF R.nP8 (fun p hp => (R.P.1 p hp).1) (Nat.zero_add _)
theorem plea_eq (R : RI t (x.1 0) (y.2 0)) {a : Int32} : poL (y.2 0) a (Int32.toNatClampNeg (y.2 0 7)) 0 = pFind ((x.1 0).2.2 1) a (Int32.toNatClampNeg ((x.1 0).2.1 6)) 0 := by
  rw [R.n6]
  exact po_pF R.nL8 (fun p hp => (R.L p hp).1) (Nat.zero_add _)
theorem pF_n3 (R : RI t (x.1 0) (y.2 0)) {f : Nat → Int32} {a : Int32} : (pFind f a (Int32.toNatClampNeg ((x.1 0).2.1 3)) 0 < 0) ↔ pFind f a (Int32.toNatClampNeg ((x.1 0).2.1 3)) 0 = -1 := by
  have : Int32.toNatClampNeg (y.2 0 6) ≤ 8 := R.nP8
  rw [R.n3]
  exact pF_lt (by omega)
theorem pF_n6 (R : RI t (x.1 0) (y.2 0)) {f : Nat → Int32} {a : Int32} : (pFind f a (Int32.toNatClampNeg ((x.1 0).2.1 6)) 0 < 0) ↔ pFind f a (Int32.toNatClampNeg ((x.1 0).2.1 6)) 0 = -1 := by
  have : Int32.toNatClampNeg (y.2 0 7) ≤ 8 := R.nL8
  rw [R.n6]
  exact pF_lt (by omega)
theorem nP3 (R : RI t (x.1 0) (y.2 0)) : Int32.toNatClampNeg ((x.1 0).2.1 3) = nP (y.2 0) := by rw [R.n3]
theorem nL6 (R : RI t (x.1 0) (y.2 0)) : Int32.toNatClampNeg ((x.1 0).2.1 6) = nL (y.2 0) := by rw [R.n6]
/-- setTree -/
theorem ck_plants (R : RI t (x.1 0) (y.2 0)) (h0 : y.1 0 = 0) {a b c : Int32} : chOk x y (f_X11_checkTree x a b c) (g_X11_checkTree x a b c) (g_X12_plants y a b c) cdA := by
  unfold f_X11_checkTree g_X11_checkTree g_X12_plants
  rcases ce_cs a b with ⟨e1, e2⟩ | ⟨e1, e2, p, q, hp, hq, rfl, rfl, e3⟩
  · rw [e1, e2, if_pos rfl, if_pos rfl, if_pos rfl]
    exact ch_fail (by decide) rfl (by decide)
  · rw [e1, e2, if_neg z10, if_neg z10, if_neg z10]
    by_cases hc : c = 0
    · rw [if_pos hc, if_pos hc, if_pos hc]
      exact Or.inl ⟨rfl, rfl, h0, rfl, rfl⟩
    · rw [if_neg hc, if_neg hc, if_neg hc, stand_eq R, ← R.n0]
      unfold f_X11_refusePartyIn g_X11_refusePartyIn f_X11_cellAt
      by_cases hs : pFind ((x.1 0).2.2 0) (8 * nI q + nI p) (Int32.toNatClampNeg ((x.1 0).2.1 3)) 0 = -1
      · rw [if_pos hs, if_pos hs, if_pos rfl, if_pos rfl, if_pos ((pF_n3 R).2 hs)]
        unfold f_X11_refuseBenchIn g_X11_refuseBenchIn
        by_cases hb : (x.1 0).2.1 0 = 8 * nI q + nI p
        · rw [if_pos hb, if_pos hb, if_pos hb]
          exact ch_ref rfl (by decide) (by decide)
        · rw [if_neg hb, if_neg hb, if_neg hb]
          exact Or.inl ⟨rfl, rfl, h0, rfl, rfl⟩
      · rw [if_neg hs, if_neg hs, if_neg (fun z => hs ((pF_n3 R).1 z))]
        have h4 : f_X11_refuse x 2 (pFind ((x.1 0).2.2 0) (8 * nI q + nI p) (Int32.toNatClampNeg ((x.1 0).2.1 3)) 0) = 4 := rfl
        rw [h4, if_neg (by decide), if_neg (by decide)]
        exact ch_ref rfl (by decide) (by decide)
/-- setBench -/
theorem ck_benches (R : RI t (x.1 0) (y.2 0)) (h0 : y.1 0 = 0) {a b : Int32} : chOk x y (f_X11_checkBench x a b) (g_X11_checkBench x a b) (g_X12_benches y a b) cdA := by
  unfold f_X11_checkBench g_X11_checkBench g_X12_benches
  rcases ce_cs a b with ⟨e1, e2⟩ | ⟨e1, e2, p, q, hp, hq, rfl, rfl, e3⟩
  · rw [e1, e2, if_pos rfl, if_pos rfl, if_pos rfl]
    exact ch_fail (by decide) rfl (by decide)
  · rw [e1, e2, if_neg z10, if_neg z10, if_neg z10]
    unfold f_X11_refuseTreeIn g_X11_refuseTreeIn f_X11_cellAt
    rw [stand_eq R]
    have et := tree_eq R (q := 8 * q + p) (by omega)
    rw [← e3] at et
    rw [et]
    by_cases ht : b2i (bitA (x.1 0).1 (8 * nI q + nI p)) = 0
    · rw [if_pos ht, if_pos ht, if_pos ht, if_pos rfl, if_pos rfl]
      unfold f_X11_refusePartyIn g_X11_refusePartyIn
      by_cases hs : pFind ((x.1 0).2.2 0) (8 * nI q + nI p) (Int32.toNatClampNeg ((x.1 0).2.1 3)) 0 = -1
      · rw [if_pos hs, if_pos hs, if_pos ((pF_n3 R).2 hs)]
        exact Or.inl ⟨rfl, rfl, h0, rfl, rfl⟩
      · rw [if_neg hs, if_neg hs, if_neg (fun z => hs ((pF_n3 R).1 z))]
        exact ch_ref rfl (by decide) (by decide)
    · rw [if_neg ht, if_neg ht, if_neg ht]
      have h4 : f_X11_refuse x 1 (8 * nI q + nI p) = 4 := rfl
      rw [h4, if_neg (by decide), if_neg (by decide)]
      exact ch_ref rfl (by decide) (by decide)
/-- setWind -/
theorem wd_cs (a b : Int32) : (f_X11_checkWind a b = 2 ∧ (f_X12_isIn a 0 7 = 0 ∨ (f_X12_isIn a 0 7 = 1 ∧ f_X12_isIn b 0 3 = 0))) ∨ (f_X11_checkWind a b = 0 ∧ f_X12_isIn a 0 7 = 1 ∧ f_X12_isIn b 0 3 = 1 ∧ ∃ p q, p < 8 ∧ q < 4 ∧ a = nI p ∧ b = nI q) := by
  unfold f_X11_checkWind
  rw [isIn_7, show (8 : Int32) = nI 8 from rfl, show f_X12_isIn b 0 3 = f_X12_isIn b 0 (nI 4 - 1) by rw [show (3 : Int32) = nI 4 - 1 by decide]]
  rcases in_cs a (n := 8) (by omega) with ⟨e1, h1⟩ | ⟨e1, p, hp, rfl⟩
  · left
    refine ⟨?_, Or.inl e1⟩
    rcases h1 with h1 | h1
    · rw [if_pos h1]; split <;> first | rfl | (split <;> rfl)
    · rw [if_pos h1]
      split <;> (split <;> first | rfl | (split <;> rfl))
  · rw [if_neg (nI_pos (by omega)), if_neg (nI_ge hp (by omega))]
    rcases in_cs b (n := 4) (by omega) with ⟨e2, h2⟩ | ⟨e2, q, hq, rfl⟩
    · left
      refine ⟨?_, Or.inr ⟨e1, e2⟩⟩
      rcases h2 with h2 | h2
      · rw [if_pos h2]
      · have : 3 < b := by
          have h2 := Int32.le_iff_toInt_le.1 h2
          rw [nI_toInt (by omega)] at h2
          rw [Int32.lt_iff_toInt_lt, show (3 : Int32).toInt = 3 by decide]
          omega
        rw [if_pos this]
        split <;> rfl
    · right
      rw [if_neg (nI_pos (by omega)), if_neg (show ¬ 3 < nI q from nI_nlt (a := 3) (b := q) (by omega) (by omega))]
      exact ⟨rfl, e1, e2, p, q, hp, hq, rfl, rfl⟩
theorem ck_blows (h0 : y.1 0 = 0) {a b : Int32} : chOk x y (f_X11_checkWind a b) x (g_X12_blows y a b) cdD := by
  unfold g_X12_blows
  rcases wd_cs a b with ⟨e, h | ⟨h, h2⟩⟩ | ⟨e, h1, h2, -⟩
  · rw [e, h, if_pos rfl]
    exact ch_fail (by decide) rfl (by decide)
  · rw [e, h, h2, if_neg (by decide), if_pos rfl]
    exact ch_fail (by decide) rfl (by decide)
  · rw [e, h1, h2, if_neg (by decide), if_neg (by decide)]
    exact Or.inl ⟨rfl, rfl, h0, rfl, rfl⟩
/-- anything in a cell -/
theorem ck_stand (R : RI t (x.1 0) (y.2 0)) {q : Nat} (hq : q < 64) {pa place : Int32} {code : Int32 → Int32} (hc : code 4 = place) (hp : place ≠ 0) (hpa : pFind ((x.1 0).2.2 0) (nI q) (Int32.toNatClampNeg ((x.1 0).2.1 3)) 0 ≠ -1 → pFind ((x.1 0).2.2 0) (nI q) (Int32.toNatClampNeg ((x.1 0).2.1 3)) 0 ≠ pa) :
    chOk x y (f_X11_refuseAnythingIn x (nI q)) (g_X11_refuseAnythingIn x (nI q)) (g_X12_mayStand y (nI q) pa place) code ∧ ((f_X11_refuseAnythingIn x (nI q) = 0 ∧ f_X12_mayStand y (nI q) pa place = 1 ∧ g_X12_mayStand y (nI q) pa place = yS y 0 0 ∧ f_X12_isTree (y.2 0) (nI q) = 0 ∧ sdL (y.2 0) (nI q) (Int32.toNatClampNeg (y.2 0 6)) 0 = -1 ∧ y.2 0 3 ≠ nI q) ∨ (f_X11_refuseAnythingIn x (nI q) ≠ 0 ∧ f_X12_mayStand y (nI q) pa place = 0)) := by
  unfold f_X11_refuseAnythingIn g_X11_refuseAnythingIn g_X12_mayStand f_X12_mayStand f_X11_refuseTreeIn g_X11_refuseTreeIn
  rw [stand_eq R, tree_eq R hq, ← R.n0]
  by_cases ht : b2i (bitA (x.1 0).1 (nI q)) = 0
  · simp only [if_pos ht, if_true]
    unfold f_X11_refusePartyIn g_X11_refusePartyIn
    by_cases hs : pFind ((x.1 0).2.2 0) (nI q) (Int32.toNatClampNeg ((x.1 0).2.1 3)) 0 = -1
    · simp only [if_pos hs, if_true, if_pos ((pF_n3 R).2 hs)]
      unfold f_X11_refuseBenchIn g_X11_refuseBenchIn
      by_cases hb : (x.1 0).2.1 0 = nI q
      · simp only [if_pos hb, if_neg hp]
        refine ⟨ch_ref2 hc hp (by decide), Or.inr ⟨z40, trivial⟩⟩
      · simp only [if_neg hb]
        exact ⟨Or.inl ⟨rfl, rfl, rfl, rfl, rfl⟩, Or.inl ⟨trivial, trivial, trivial, ht, hs, hb⟩⟩
    · have h4 : f_X11_refuse x 2 (pFind ((x.1 0).2.2 0) (nI q) (Int32.toNatClampNeg ((x.1 0).2.1 3)) 0) = 4 := rfl
      simp only [if_neg hs, if_neg (fun z => hs ((pF_n3 R).1 z)), if_neg (hpa hs), if_neg hp, h4, show ¬ (4 : Int32) = 0 by decide, if_false]
      exact ⟨ch_ref2 hc hp (by decide), Or.inr ⟨z40, trivial⟩⟩
  · have h4 : f_X11_refuse x 1 (nI q) = 4 := rfl
    simp only [if_neg ht, if_neg hp, h4, show ¬ (4 : Int32) = 0 by decide, if_false, ite_self]
    exact ⟨ch_ref2 hc hp (by decide), Or.inr ⟨z40, trivial⟩⟩
/-- addParty -/
theorem ck_adds (R : RI t (x.1 0) (y.2 0)) (h0 : y.1 0 = 0) {a b : Int32} : chOk x y (f_X11_checkNewParty x a b) (g_X11_checkNewParty x a b) (g_X12_adds y a b) cdB := by
  unfold f_X11_checkNewParty g_X11_checkNewParty g_X12_adds
  rcases ce_cs a b with ⟨e1, e2⟩ | ⟨e1, e2, p, q, hp, hq, rfl, rfl, e3⟩
  · rw [e1, e2, if_pos rfl, if_pos rfl, if_pos rfl]
    exact ch_fail (by decide) rfl (by decide)
  · rw [e1, e2, if_neg z10, if_neg z10, if_neg z10]
    have h8 := R.nP8
    by_cases hn : nP (y.2 0) = 8
    · have e8 : (y.2 0) 6 = 8 := by rw [R.eP, hn]; rfl
      rw [R.n3, if_neg (by rw [e8]; decide), if_neg (by rw [e8]; decide), if_pos e8]
      exact ch_fail (by decide) rfl (by decide)
    · have l8 : (x.1 0).2.1 3 < 8 := by rw [R.n3, R.eP]; exact nI_lt (b := 8) (by omega) (by omega)
      have n8 : ¬ (y.2 0) 6 = 8 := fun z => hn (by rw [nP, z]; rfl)
      rw [if_pos l8, if_pos l8, if_neg n8]
      unfold f_X11_cellAt
      rw [e3]
      have hs := ck_stand R (q := 8 * q + p) (by omega) (pa := -1) (place := 3) (code := cdB) rfl (by decide) (fun z => z)
      obtain ⟨h1, h2⟩ := hs
      rcases h2 with ⟨f0, m1, g1, -⟩ | ⟨f0, m0⟩
      · rw [m1, if_neg (by decide), g1]
        rw [f0, g1] at h1
        rcases h1 with ⟨-, e, -⟩ | ⟨z, -⟩
        · rw [f0, e]
          exact Or.inl ⟨rfl, rfl, rfl, rfl, rfl⟩
        · exact absurd rfl z
      · rw [m0, if_pos rfl]
        exact h1
/-- moveParty -/
theorem ck_moves (R : RI t (x.1 0) (y.2 0)) (h0 : y.1 0 = 0) {a b c : Int32} : chOk x y (f_X11_checkMove x a b c) (g_X11_checkMove x a b c) (g_X12_moves y a b c) cdA := by
  unfold f_X11_checkMove g_X11_checkMove g_X12_moves f_X12_isParty
  have h8 := R.nP8
  have e6 : (x.1 0).2.1 3 = nI (nP (y.2 0)) := by rw [R.n3]; exact R.eP
  rw [show f_X12_isIn a 0 ((y.2 0) 6 - 1) = f_X12_isIn a 0 (nI (nP (y.2 0)) - 1) by rw [← R.eP]]
  rcases in_cs a (n := nP (y.2 0)) (by omega) with ⟨i1, i2⟩ | ⟨i1, j, hj, rfl⟩
  · have := hpQ_f e6 (by omega) i2
    rw [this, i1, if_pos rfl, if_pos rfl, if_pos rfl]
    exact ch_fail (by decide) rfl (by decide)
  · have := hpQ_t e6 (by omega) hj
    rw [this, i1, if_neg z10, if_neg z10, if_neg z10]
    rcases ce_cs b c with ⟨e1, e2⟩ | ⟨e1, e2, p, q, hp, hq, rfl, rfl, e3⟩
    · rw [e1, e2, if_pos rfl, if_pos rfl, if_pos rfl]
      exact ch_fail (by decide) rfl (by decide)
    · rw [e1, e2, if_neg z10, if_neg z10, if_neg z10]
      unfold f_X11_cellAt
      rw [e3, nI_clamp (show j < 2 ^ 31 by omega)]
      by_cases hs : ((x.1 0).2.2 0) j = nI (8 * q + p)
      · rw [if_pos hs, if_pos hs]
        have cj := (R.P.1 j hj).1
        have dj := R.D.2 j hj
        rw [← cj, hs] at dj
        have st : sdL (y.2 0) (nI (8 * q + p)) (Int32.toNatClampNeg (y.2 0 6)) 0 = nI j := by
          rw [stand_eq R]
          rcases pF_s (f := (x.1 0).2.2 0) (c := nI (8 * q + p)) (k := Int32.toNatClampNeg ((x.1 0).2.1 3)) (j := 0) with ⟨-, n⟩ | ⟨i, -, i2, i3, e, -⟩
          · exact absurd hs (n j (Nat.zero_le _) (by rw [nP3 R]; omega))
          · rw [e]
            have i4 : i < nP (y.2 0) := by rw [nP3 R] at i2; omega
            have := dj.2.2 i i4 (by rw [← (R.P.1 i i4).1]; exact i3)
            rw [this]
        have mf : f_X12_mayStand y (nI (8 * q + p)) (nI j) 2 = 1 ∧ g_X12_mayStand y (nI (8 * q + p)) (nI j) 2 = yS y 0 0 := by
          unfold f_X12_mayStand g_X12_mayStand
          rw [dj.2.1, st]
          simp only [if_true, if_neg (fun z => dj.1 (Eq.symm z) : ¬ y.2 0 3 = nI (8 * q + p)), ite_self]
          exact ⟨trivial, trivial⟩
        rw [mf.1, mf.2, if_neg (by decide)]
        exact Or.inl ⟨rfl, rfl, rfl, rfl, rfl⟩
      · rw [if_neg hs, if_neg hs]
        have hk := ck_stand R (q := 8 * q + p) (by omega) (pa := nI j) (place := 2) (code := cdA) rfl (by decide) (fun z => by
          rcases pF_s (f := (x.1 0).2.2 0) (c := nI (8 * q + p)) (k := Int32.toNatClampNeg ((x.1 0).2.1 3)) (j := 0) with ⟨e, -⟩ | ⟨i, -, i2, i3, e, -⟩
          · exact absurd e z
          · rw [e]
            intro z2
            have i4 : i < nP (y.2 0) := by rw [nP3 R] at i2; omega
            have : i = j := (nI_eq (by omega) (by omega)).1 z2
            subst this
            exact hs i3)
        obtain ⟨h1, h2⟩ := hk
        rcases h2 with ⟨f0, m1, g1, -⟩ | ⟨f0, m0⟩
        · rw [m1, if_neg (by decide), g1]
          rw [f0, g1] at h1
          rcases h1 with ⟨-, e, -⟩ | ⟨z, -⟩
          · rw [f0, e]
            exact Or.inl ⟨rfl, rfl, rfl, rfl, rfl⟩
          · exact absurd rfl z
        · rw [m0, if_pos rfl]
          exact h1
/-- buyBoomerangs -/
theorem by_cs (a : Int32) : (f_X12_isIn a 1 20 = 0 ∧ (a < 1 ∨ ¬ a ≤ 20)) ∨ (f_X12_isIn a 1 20 = 1 ∧ ¬ a < 1 ∧ a ≤ 20 ∧ ∃ p, 1 ≤ p ∧ p ≤ 20 ∧ a = nI p) := by
  unfold f_X12_isIn
  by_cases h1 : a < 1
  · rw [if_pos h1]; exact Or.inl ⟨rfl, Or.inl h1⟩
  · rw [if_neg h1]
    by_cases h2 : 20 < a
    · rw [if_pos h2]; exact Or.inl ⟨rfl, Or.inr (Int32.not_le.2 h2)⟩
    · rw [if_neg h2]
      have h3 : a ≤ 20 := Int32.not_lt.1 h2
      refine Or.inr ⟨rfl, h1, h3, ?_⟩
      have g1 : ¬ a < 0 := by
        intro z
        apply h1
        rw [Int32.lt_iff_toInt_lt] at z ⊢
        rw [show (0 : Int32).toInt = 0 by decide] at z
        rw [show (1 : Int32).toInt = 1 by decide]
        omega
      obtain ⟨p, hp, rfl⟩ := nI_of2 (M := 20) (n := 20) (by decide) g1 h3
      refine ⟨p, ?_, hp, rfl⟩
      rcases Nat.eq_zero_or_pos p with z | z
      · subst z; exact absurd (by decide) h1
      · exact z
theorem ck_buys (R : RI t (x.1 0) (y.2 0)) (h0 : y.1 0 = 0) {a : Int32} : chOk x y (f_X11_checkPurchase x a) x (g_X12_buys y a) cdD := by
  unfold f_X11_checkPurchase g_X12_buys
  rw [R.n8]
  rcases by_cs a with ⟨e, h | h⟩ | ⟨e, h1, h2, -⟩
  · rw [e, if_pos h, if_pos rfl]
    exact ch_fail (by decide) rfl (by decide)
  · rw [e, if_pos rfl]
    by_cases h1 : a < 1
    · rw [if_pos h1]; exact ch_fail (by decide) rfl (by decide)
    · rw [if_neg h1, if_neg h]; exact ch_fail (by decide) rfl (by decide)
  · rw [e, if_neg h1, if_pos h2, if_neg z10]
    by_cases h3 : 2 * a ≤ (y.2 0) 1
    · rw [if_pos h3, if_pos h3]
      exact Or.inl ⟨rfl, rfl, h0, rfl, rfl⟩
    · rw [if_neg h3, if_neg h3]
      exact ch_fail (by decide) rfl (by decide)
end ACT
