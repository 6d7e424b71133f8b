/-! THE TWO STATES TOGETHER: a core of the class and the reference's row v. -/
def isN (x : Int32) (k : Nat) : Prop := ∃ n, n < k ∧ x = nI n
theorem isN_m {x : Int32} {k j : Nat} (h : isN x k) (hk : k ≤ j) : isN x j := by
  obtain ⟨n, h1, h2⟩ := h
  exact ⟨n, by omega, h2⟩
theorem isN_cl {x : Int32} {k : Nat} (h : isN x k) (hk : k ≤ 2 ^ 31) : x = nI x.toNatClampNeg ∧ x.toNatClampNeg < k := by
  obtain ⟨n, h1, rfl⟩ := h
  rw [nI_clamp (by omega)]
  exact ⟨rfl, h1⟩
def ixK (k : Nat) : Nat := [3, 4, 5, 6, 0, 8, 7, 2, 1, 99, 99, 99, 9, 10, 11].getD k 99
def rcN (c : kCo) (v : Nat → Int32) : Prop := ∀ k, k < 15 → ¬ (9 ≤ k ∧ k < 12) → c.2.1 k = v (ixK k)
def rcT (c : kCo) (v : Nat → Int32) : Prop := ∀ q, q < 64 → v (12 + q) = if tb c.1 q = true then 1 else 0
abbrev nP (v : Nat → Int32) : Nat := (v 6).toNatClampNeg
abbrev nL (v : Nat → Int32) : Nat := (v 7).toNatClampNeg
def rcP (c : kCo) (v : Nat → Int32) : Prop := (∀ p, p < nP v → c.2.2 0 p = v (76 + 2 * p) ∧ c.2.2 4 p = v (76 + 2 * p + 1)) ∧ ∀ p, p < 8 → nP v ≤ p → c.2.2 4 p = 0
def reL (c : kCo) (v : Nat → Int32) : Prop := ∀ l, l < nL v → c.2.2 1 l = v (92 + 3 * l) ∧ c.2.2 2 l = v (92 + 3 * l + 1) ∧ c.2.2 3 l = v (92 + 3 * l + 2)
def rcA (c : kCo) : Prop := c.2.1 8 = 50 + c.2.1 9 - c.2.1 10 - c.2.1 11
def vB (hb t : Nat) (v : Nat → Int32) : Prop := isN (v 6) 9 ∧ isN (v 7) 9 ∧ isN (v 3) 64 ∧ isN (v 4) 8 ∧ isN (v 5) 4 ∧ isN (v 0) (hb + 1) ∧ isN (v 2) (20 * t + 11) ∧ (∃ a b, a ≤ b ∧ b ≤ t ∧ v 10 = nI a ∧ v 9 = nI b) ∧ isN (v 11) (36 * t + 1)
def vP (v : Nat → Int32) : Prop := ∀ p, p < 8 → isN (v (76 + 2 * p)) 64
def vD (v : Nat → Int32) : Prop := f_X12_isTree v (v 3) = 0 ∧ ∀ p, p < nP v → v (76 + 2 * p) ≠ v 3 ∧ f_X12_isTree v (v (76 + 2 * p)) = 0 ∧ ∀ q, q < nP v → v (76 + 2 * q) = v (76 + 2 * p) → q = p
abbrev hF (v : Nat → Int32) (l : Nat) : Nat := (v (92 + 3 * l + 1)).toNatClampNeg
def vL (hb : Nat) (v : Nat → Int32) : Prop := (∀ l, l < 8 → isN (v (92 + 3 * l)) 8 ∧ isN (v (92 + 3 * l + 1)) (hb + 10) ∧ isN (v (92 + 3 * l + 2)) 5) ∧ ∀ l, l < nL v → (v 0).toNatClampNeg ≤ hF v l + 24 ∧ hF v l ≤ (v 0).toNatClampNeg + 8 ∧ ∀ m, m < nL v → v (92 + 3 * m) = v (92 + 3 * l) → m = l
/-- hb bounds the hour, t the commands so far -/
def RJ (hb t : Nat) (c : kCo) (v : Nat → Int32) : Prop := (rcN c v ∧ rcT c v ∧ rcP c v ∧ reL c v ∧ rcA c) ∧ vB hb t v ∧ vP v ∧ vD v ∧ vL hb v
def RI (t : Nat) (c : kCo) (v : Nat → Int32) : Prop := RJ (48 * t) t c v
section RIP
variable {hb t : Nat} {c : kCo} {v : Nat → Int32}
theorem RJ.N (h : RJ hb t c v) : rcN c v := h.1.1
theorem RJ.T (h : RJ hb t c v) : rcT c v := h.1.2.1
theorem RJ.P (h : RJ hb t c v) : rcP c v := h.1.2.2.1
theorem RJ.L (h : RJ hb t c v) : reL c v := h.1.2.2.2.1
theorem RJ.A (h : RJ hb t c v) : rcA c := h.1.2.2.2.2
theorem RJ.B (h : RJ hb t c v) : vB hb t v := h.2.1
theorem RJ.Q (h : RJ hb t c v) : vP v := h.2.2.1
theorem RJ.D (h : RJ hb t c v) : vD v := h.2.2.2.1
theorem RJ.E (h : RJ hb t c v) : vL hb v := h.2.2.2.2
theorem RJ.n0 (h : RJ hb t c v) : c.2.1 0 = v 3 := h.N 0 (by decide) (by decide)
theorem RJ.n1 (h : RJ hb t c v) : c.2.1 1 = v 4 := h.N 1 (by decide) (by decide)
theorem RJ.n2 (h : RJ hb t c v) : c.2.1 2 = v 5 := h.N 2 (by decide) (by decide)
theorem RJ.n3 (h : RJ hb t c v) : c.2.1 3 = v 6 := h.N 3 (by decide) (by decide)
theorem RJ.n4 (h : RJ hb t c v) : c.2.1 4 = v 0 := h.N 4 (by decide) (by decide)
theorem RJ.n5 (h : RJ hb t c v) : c.2.1 5 = v 8 := h.N 5 (by decide) (by decide)
theorem RJ.n6 (h : RJ hb t c v) : c.2.1 6 = v 7 := h.N 6 (by decide) (by decide)
theorem RJ.n7 (h : RJ hb t c v) : c.2.1 7 = v 2 := h.N 7 (by decide) (by decide)
theorem RJ.n8 (h : RJ hb t c v) : c.2.1 8 = v 1 := h.N 8 (by decide) (by decide)
theorem RJ.n12 (h : RJ hb t c v) : c.2.1 12 = v 9 := h.N 12 (by decide) (by decide)
theorem RJ.n13 (h : RJ hb t c v) : c.2.1 13 = v 10 := h.N 13 (by decide) (by decide)
theorem RJ.n14 (h : RJ hb t c v) : c.2.1 14 = v 11 := h.N 14 (by decide) (by decide)
theorem RJ.nP8 (h : RJ hb t c v) : nP v ≤ 8 := Nat.le_of_lt_succ (isN_cl h.B.1 (by decide)).2
theorem RJ.nL8 (h : RJ hb t c v) : nL v ≤ 8 := Nat.le_of_lt_succ (isN_cl h.B.2.1 (by decide)).2
theorem RJ.eP (h : RJ hb t c v) : v 6 = nI (nP v) := (isN_cl h.B.1 (by decide)).1
theorem RJ.eL (h : RJ hb t c v) : v 7 = nI (nL v) := (isN_cl h.B.2.1 (by decide)).1
theorem RJ.mv (h : RJ hb t c v) : kMv v := by
  obtain ⟨⟨a, a1, a2⟩, ⟨b, b1, b2⟩, ⟨d, d1, d2⟩, ⟨e, e1, e2⟩, ⟨f, f1, f2⟩, -⟩ := h.B
  exact ⟨⟨a, by omega, a2⟩, ⟨b, by omega, b2⟩, ⟨d, d1, d2⟩, ⟨e, e1, e2⟩, ⟨f, by omega, f2⟩, fun p hp => h.Q p hp⟩
theorem RJ.iv (h : RJ hb t c v) : kIv c := by
  obtain ⟨⟨a, a1, a2⟩, ⟨b, b1, b2⟩, ⟨d, d1, d2⟩, ⟨e, e1, e2⟩, ⟨f, f1, f2⟩, -⟩ := h.B
  refine ⟨⟨a, by omega, by rw [h.n3, a2]⟩, ⟨b, by omega, by rw [h.n6, b2]⟩, ⟨d, d1, by rw [h.n0, d2]⟩, ⟨e, e1, by rw [h.n1, e2]⟩, ⟨f, by omega, by rw [h.n2, f2]⟩⟩
theorem RJ.mono (h : RJ hb t c v) {h2 t2 : Nat} (hh : hb ≤ h2) (ht : t ≤ t2) : RJ h2 t2 c v := by
  obtain ⟨h1, ⟨b1, b2, b3, b4, b5, b6, b7, ⟨a, b, q1, q2, q3, q4⟩, b9⟩, h3, h4, h5, h6⟩ := h
  exact ⟨h1, ⟨b1, b2, b3, b4, b5, isN_m b6 (by omega), isN_m b7 (by omega), ⟨a, b, q1, by omega, q3, q4⟩, isN_m b9 (by omega)⟩, h3, h4, fun l hl => ⟨(h5 l hl).1, isN_m (h5 l hl).2.1 (by omega), (h5 l hl).2.2⟩, h6⟩
end RIP
/-! what counts for each part -/
def vEq (v w : Nat → Int32) (a b : Nat) : Prop := ∀ i, a ≤ i → i < b → w i = v i
section RIC
variable {hb t : Nat} {c d : kCo} {v w : Nat → Int32}
theorem ix_inj {j k : Nat} (hj : j < 15) (hk : k < 15) (j2 : ¬ (9 ≤ j ∧ j < 12)) (k2 : ¬ (9 ≤ k ∧ k < 12)) (h : ixK j = ixK k) : j = k := by
  have f : ∀ j k : Fin 15, ¬ (9 ≤ j.1 ∧ j.1 < 12) → ¬ (9 ≤ k.1 ∧ k.1 < 12) → ixK j.1 = ixK k.1 → j.1 = k.1 := by decide
  exact f ⟨j, hj⟩ ⟨k, hk⟩ j2 k2 h
theorem ix_lt {k : Nat} (hk : k < 15) (k2 : ¬ (9 ≤ k ∧ k < 12)) : ixK k < 12 := by
  have f : ∀ k, k < 15 → ¬ (9 ≤ k ∧ k < 12) → ixK k < 12 := by decide
  exact f k hk k2
theorem rcN_S (h : rcN c v) {k : Nat} (hk : k < 15) (k2 : ¬ (9 ≤ k ∧ k < 12)) (x : Int32) : rcN (cS c k x) (upd v (ixK k) x) := by
  intro j hj j2
  show upd c.2.1 k x j = upd v (ixK k) x (ixK j)
  by_cases e : j = k
  · subst e; rw [pk_us, pk_us]
  · rw [pk_un e, pk_un (fun z => e (ix_inj hj hk j2 k2 z))]
    exact h j hj j2
/-- numbers that are the class's alone -/
theorem rcN_x (h : rcN c v) {k : Nat} (hk : 9 ≤ k ∧ k < 12) (x : Int32) : rcN (cS c k x) v := by
  intro j hj j2
  show upd c.2.1 k x j = v (ixK j)
  rw [pk_un (by omega)]
  exact h j hj j2
theorem rcN_v (h : rcN c v) (e : vEq v w 0 12) : rcN c w := by
  intro j hj j2
  rw [e _ (Nat.zero_le _) (ix_lt hj j2)]
  exact h j hj j2
theorem rcN_c (h : rcN c v) (e : d.2.1 = c.2.1) : rcN d v := by
  intro j hj j2
  rw [e]
  exact h j hj j2
theorem rcT_c (h : rcT c v) (e : d.1 = c.1) (ev : vEq v w 12 76) : rcT d w := by
  intro q hq
  rw [ev _ (by omega) (by omega), e]
  exact h q hq
theorem rcP_c (h : rcP c v) (e0 : d.2.2 0 = c.2.2 0) (e4 : d.2.2 4 = c.2.2 4) (e6 : w 6 = v 6) (h8 : nP v ≤ 8) (ev : vEq v w 76 92) : rcP d w := by
  unfold rcP nP
  rw [e0, e4, e6]
  refine ⟨fun p hp => ?_, h.2⟩
  have hp2 : p < nP v := hp
  rw [ev _ (by omega) (by omega), ev _ (by omega) (by omega)]
  exact h.1 p hp
theorem reL_c (h : reL c v) (e1 : d.2.2 1 = c.2.2 1) (e2 : d.2.2 2 = c.2.2 2) (e3 : d.2.2 3 = c.2.2 3) (e7 : w 7 = v 7) (h8 : nL v ≤ 8) (ev : vEq v w 92 116) : reL d w := by
  unfold reL nL
  rw [e1, e2, e3, e7]
  intro l hl
  have hl2 : l < nL v := hl
  rw [ev _ (by omega) (by omega), ev _ (by omega) (by omega), ev _ (by omega) (by omega)]
  exact h l hl
theorem vP_c (h : vP v) (ev : vEq v w 76 92) : vP w := by
  intro p hp
  rw [ev _ (by omega) (by omega)]
  exact h p hp
theorem isTree_at {a : Nat} (ha : a < 64) : f_X12_isTree v (nI a) = if v (12 + a) = 1 then 1 else 0 := by
  unfold f_X12_isTree
  rw [show (12 : Int32) + nI a = nI (12 + a) from nI_add 12 a, nI_clamp (by omega)]
theorem isTree_c {x : Int32} (hx : isN x 64) (ev : vEq v w 12 76) : f_X12_isTree w x = f_X12_isTree v x := by
  obtain ⟨n, hn, rfl⟩ := hx
  rw [isTree_at hn, isTree_at hn, ev _ (by omega) (by omega)]
theorem vD_c (h : vD v) (hq : vP v) (h3 : isN (v 3) 64) (e3 : w 3 = v 3) (e6 : w 6 = v 6) (h8 : nP v ≤ 8) (ev : vEq v w 12 92) : vD w := by
  have ev2 : vEq v w 12 76 := fun i a b => ev i a (by omega)
  unfold vD nP
  rw [e3, e6, isTree_c h3 ev2]
  refine ⟨h.1, fun p hp => ?_⟩
  have hp2 : p < nP v := hp
  rw [ev _ (by omega) (by omega), isTree_c (hq p (by omega)) ev2]
  refine ⟨(h.2 p hp).1, (h.2 p hp).2.1, fun q hq2 e => (h.2 p hp).2.2 q hq2 ?_⟩
  have hq3 : q < nP v := hq2
  rw [← ev _ (by omega) (by omega)]
  exact e
theorem vL_c (h : vL hb v) (e0 : w 0 = v 0) (e7 : w 7 = v 7) (h8 : nL v ≤ 8) (ev : vEq v w 92 116) {h2 : Nat} (ht : hb ≤ h2) : vL h2 w := by
  refine ⟨fun l hl => ?_, fun l hl => ?_⟩
  · rw [ev _ (by omega) (by omega), ev _ (by omega) (by omega), ev _ (by omega) (by omega)]
    exact ⟨(h.1 l hl).1, isN_m (h.1 l hl).2.1 (by omega), (h.1 l hl).2.2⟩
  · have hl2 : l < nL v := by rw [nL, e7] at hl; exact hl
    have h9 := h.2 l hl2
    rw [hF, e0, ev _ (by omega) (by omega)]
    refine ⟨h9.1, h9.2.1, fun m hm e => h9.2.2 m (by rw [nL, e7] at hm; exact hm) ?_⟩
    have hm2 : m < nL v := by rw [nL, e7] at hm; exact hm
    rw [ev _ (by omega) (by omega), ev _ (by omega) (by omega)] at e
    exact e
/-- all but numbers -/
theorem RI_nums (h : RJ hb t c v) {h2 t2 : Nat} (hh : hb ≤ h2) (hN : rcN d w) (hA : rcA d) (hB : vB h2 t2 w) (e1 : d.1 = c.1) (er : d.2.2 = c.2.2) (e0 : w 0 = v 0) (e3 : w 3 = v 3) (e6 : w 6 = v 6) (e7 : w 7 = v 7) (ev : vEq v w 12 116) : RJ h2 t2 d w := by
  have a1 : vEq v w 12 76 := fun i a b => ev i a (by omega)
  have a2 : vEq v w 76 92 := fun i a b => ev i (by omega) (by omega)
  have a3 : vEq v w 92 116 := fun i a b => ev i (by omega) b
  have a4 : vEq v w 12 92 := fun i a b => ev i a (by omega)
  exact ⟨⟨hN, rcT_c h.T e1 a1, rcP_c h.P (by rw [er]) (by rw [er]) e6 h.nP8 a2, reL_c h.L (by rw [er]) (by rw [er]) (by rw [er]) e7 h.nL8 a3, hA⟩, hB, vP_c h.Q a2, vD_c h.D h.Q h.B.2.2.1 e3 e6 h.nP8 a4, vL_c h.E e0 e7 h.nL8 a3 hh⟩
end RIC
/-! places -/
theorem pF_s {f : Nat → Int32} {c : Int32} {k : Nat} : ∀ {j : Nat}, (pFind f c k j = -1 ∧ ∀ i, j ≤ i → i < j + k → f i ≠ c) ∨ ∃ i, j ≤ i ∧ i < j + k ∧ f i = c ∧ pFind f c k j = nI i ∧ ∀ m, j ≤ m → m < i → f m ≠ c := by
  induction k with
  | zero => intro j; left; exact ⟨rfl, fun i a b => by omega⟩
  | succ k ih =>
    intro j
    rw [pFind]
    by_cases h : f j = c
    · rw [if_pos h]
      right
      exact ⟨j, Nat.le_refl _, by omega, h, rfl, fun m a b => by omega⟩
    · rw [if_neg h]
      rcases ih (j := j + 1) with ⟨e, n⟩ | ⟨i, i1, i2, i3, i4, i5⟩
      · left
        refine ⟨e, fun i a b => ?_⟩
        by_cases q : i = j
        · rw [q]; exact h
        · exact n i (by omega) (by omega)
      · right
        refine ⟨i, by omega, by omega, i3, i4, fun m a b => ?_⟩
        by_cases q : m = j
        · rw [q]; exact h
        · exact i5 m (by omega) b
theorem pF_lt {f : Nat → Int32} {c : Int32} {k j : Nat} (hk : j + k < 2 ^ 31) : (pFind f c k j < 0) ↔ pFind f c k j = -1 := by
  rcases pF_s (f := f) (c := c) (k := k) (j := j) with ⟨e, -⟩ | ⟨i, i1, i2, i3, e, -⟩
  · rw [e]; exact ⟨fun _ => rfl, fun _ => by decide⟩
  · rw [e]
    constructor
    · intro h; exact absurd h (nI_pos (by omega))
    · intro h
      have h2 : nI i < 0 := by rw [h]; decide
      exact absurd h2 (nI_pos (by omega))
theorem sd_pF {v f : Nat → Int32} {a : Int32} {n k : Nat} (hn : n ≤ 8) (h : ∀ p, p < n → f p = v (76 + 2 * p)) : ∀ {j : Nat}, j + k = n → sdL v a k j = pFind f a k j := by
  induction k with
  | zero => intro j _; rfl
  | succ k ih =>
    intro j hj
    rw [sdL, pFind, ih (by omega)]
    have : f_X12_cellOfParty v (nI j) = f j := by
      unfold f_X12_cellOfParty
      rw [h j (by omega), show (76 : Int32) + 2 * nI j = nI (76 + 2 * j) by rw [show (2 : Int32) = nI 2 from rfl, pk_mul, show (76 : Int32) = nI 76 from rfl, nI_add], nI_clamp (by omega)]
    rw [this]
theorem po_pF {v f : Nat → Int32} {a : Int32} {n k : Nat} (hn : n ≤ 8) (h : ∀ p, p < n → f p = v (92 + 3 * p)) : ∀ {j : Nat}, j + k = n → poL v a k j = pFind f a k j := by
  induction k with
  | zero => intro j _; rfl
  | succ k ih =>
    intro j hj
    rw [poL, pFind, ih (by omega)]
    have e : Int32.toNatClampNeg (f_X12_pleaAt (nI j) 0) = 92 + 3 * j := by
      unfold f_X12_pleaAt
      rw [show (3 : Int32) = nI 3 from rfl, pk_mul, show (92 : Int32) = nI 92 from rfl, nI_add, show (0 : Int32) = nI 0 from rfl, nI_add, nI_clamp (by omega)]
      omega
    rw [e, h j (by omega)]
