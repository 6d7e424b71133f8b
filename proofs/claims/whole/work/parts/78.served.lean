/-! A PARTY IS SERVED. -/
section SUM
variable {t : Nat} {x x2 : kK} {y : kY}
/-- a party is served -/
theorem RI_served (R : RI t (x.1 0) (y.2 0)) (ht : t < 2 ^ 20) {q : Nat} (hq : q < nP (y.2 0)) {arm : Nat} (ha : arm < 5) {st : Nat} (hst : st ≤ 35) (h0 : y.2 0 2 ≠ 0) (hn : ∀ l, l < nL (y.2 0) → y.2 0 (92 + 3 * l) ≠ nI q) {c : kCo}
    (hc1 : c.1 = (x.1 0).1) (hc0 : c.2.2 0 = (x.1 0).2.2 0) (hc4 : c.2.2 4 = upd ((x.1 0).2.2 4) q ((x.1 0).2.2 4 q + 1)) (hn1 : c.2.1 = (cS (cS (thN (x.1 0) (nI arm) (nI st)) 7 ((x.1 0).2.1 7 - 1)) 6 ((x.1 0).2.1 6 + 1)).2.1) (hr : ∀ i, kRow c i = if i = nL (y.2 0) then (nI q, (x.1 0).2.1 4 + nI st / 4, nI arm) else kRow (x.1 0) i) : RI (t + 1) c (suS (y.2 0) (nI arm) (nI st) (nI q)) := by
  have n8 := R.nP8
  have l8 := pl_lt8 R (q := q) (by omega) hn
  have hA := thA R (arm := nI arm) (st := nI st)
  have hC := thC R (arm := nI arm) (st := nI st)
  have eL := R.eL
  generalize hm : nL (y.2 0) = m at *
  have k1 : Int32.toNatClampNeg (76 + 2 * nI q + 1) = 76 + 2 * q + 1 := by
    rw [show (2 : Int32) = nI 2 from rfl, pk_mul, show (76 : Int32) = nI 76 from rfl, nI_add, nI_1, nI_clamp (by omega)]
  obtain ⟨b1, b2, b3, b4, b5, ⟨H, hH, eH⟩, ⟨z, z1, z2⟩, ⟨a, b0, q1, q2, q3, q4⟩, ⟨s, s1, s2⟩⟩ := R.B
  have hz : 0 < z := by
    rcases Nat.eq_zero_or_pos z with q | q
    · subst q; exact absurd z2 h0
    · exact q
  -- the row behind it, place by place
  have w : suS (y.2 0) (nI arm) (nI st) (nI q) = upd (upd (upd (upd (upd (suS0 (y.2 0) (nI arm) (nI st)) (76 + 2 * q + 1) (y.2 0 (76 + 2 * q + 1) + 1)) (92 + 3 * m) (nI q)) (92 + 3 * m + 1) (nI (H + st / 4))) (92 + 3 * m + 2) (nI arm)) 7 (nI (m + 1)) := by
    have s0 : ∀ i, i ≠ 1 → i ≠ 9 → i ≠ 11 → i ≠ 2 → suS0 (y.2 0) (nI arm) (nI st) i = y.2 0 i := fun i h1 h9 h11 h2 => by unfold suS0; rw [pk_un h2, suB_o h1 h9 h11]
    have e1 : suS1 (y.2 0) (nI arm) (nI st) (nI q) = upd (suS0 (y.2 0) (nI arm) (nI st)) (76 + 2 * q + 1) (y.2 0 (76 + 2 * q + 1) + 1) := by
      unfold suS1
      rw [k1, s0 _ (by omega) (by omega) (by omega) (by omega)]
    have e2 : suS2 (y.2 0) (nI arm) (nI st) (nI q) = upd (suS1 (y.2 0) (nI arm) (nI st) (nI q)) (92 + 3 * m) (nI q) := by
      unfold suS2
      rw [eL, pl_0 (by omega)]
    have v0 : suS2 (y.2 0) (nI arm) (nI st) (nI q) 0 = nI H := by
      rw [e2, pk_un (by omega), e1, pk_un (by omega), s0 0 (by decide) (by decide) (by decide) (by decide), eH]
    have e3 : suS3 (y.2 0) (nI arm) (nI st) (nI q) = upd (suS2 (y.2 0) (nI arm) (nI st) (nI q)) (92 + 3 * m + 1) (nI (H + st / 4)) := by
      unfold suS3
      rw [eL, pl_1 (by omega), v0, show (4 : Int32) = nI 4 from rfl, pk_div (by omega) (by decide) (by decide), nI_add]
    have e4 : suS4 (y.2 0) (nI arm) (nI st) (nI q) = upd (suS3 (y.2 0) (nI arm) (nI st) (nI q)) (92 + 3 * m + 2) (nI arm) := by
      unfold suS4
      rw [eL, pl_2 (by omega)]
    have v7 : suS4 (y.2 0) (nI arm) (nI st) (nI q) 7 = nI m := by
      rw [e4, pk_un (by omega), e3, pk_un (by omega), e2, pk_un (by omega), e1, pk_un (by omega), s0 7 (by decide) (by decide) (by decide) (by decide), eL]
    unfold suS
    rw [v7, nI_1, e4, e3, e2, e1]
  rw [w]
  have o : ∀ i, i ≠ 1 → i ≠ 9 → i ≠ 11 → i ≠ 2 → i ≠ 7 → i ≠ 76 + 2 * q + 1 → i ≠ 92 + 3 * m → i ≠ 92 + 3 * m + 1 → i ≠ 92 + 3 * m + 2 → upd (upd (upd (upd (upd (suS0 (y.2 0) (nI arm) (nI st)) (76 + 2 * q + 1) (y.2 0 (76 + 2 * q + 1) + 1)) (92 + 3 * m) (nI q)) (92 + 3 * m + 1) (nI (H + st / 4))) (92 + 3 * m + 2) (nI arm)) 7 (nI (m + 1)) i = y.2 0 i := by
    intro i h1 h9 h11 h2 h7 hs p0 p1 p2
    rw [pk_un h7, pk_un p2, pk_un p1, pk_un p0, pk_un hs]
    unfold suS0
    rw [pk_un h2, suB_o h1 h9 h11]
  have w7 : upd (upd (upd (upd (upd (suS0 (y.2 0) (nI arm) (nI st)) (76 + 2 * q + 1) (y.2 0 (76 + 2 * q + 1) + 1)) (92 + 3 * m) (nI q)) (92 + 3 * m + 1) (nI (H + st / 4))) (92 + 3 * m + 2) (nI arm)) 7 (nI (m + 1)) 7 = nI (m + 1) := pk_us
  have wp0 : upd (upd (upd (upd (upd (suS0 (y.2 0) (nI arm) (nI st)) (76 + 2 * q + 1) (y.2 0 (76 + 2 * q + 1) + 1)) (92 + 3 * m) (nI q)) (92 + 3 * m + 1) (nI (H + st / 4))) (92 + 3 * m + 2) (nI arm)) 7 (nI (m + 1)) (92 + 3 * m) = nI q := by rw [pk_un (by omega), pk_un (by omega), pk_un (by omega), pk_us]
  have wp1 : upd (upd (upd (upd (upd (suS0 (y.2 0) (nI arm) (nI st)) (76 + 2 * q + 1) (y.2 0 (76 + 2 * q + 1) + 1)) (92 + 3 * m) (nI q)) (92 + 3 * m + 1) (nI (H + st / 4))) (92 + 3 * m + 2) (nI arm)) 7 (nI (m + 1)) (92 + 3 * m + 1) = nI (H + st / 4) := by rw [pk_un (by omega), pk_un (by omega), pk_us]
  have wp2 : upd (upd (upd (upd (upd (suS0 (y.2 0) (nI arm) (nI st)) (76 + 2 * q + 1) (y.2 0 (76 + 2 * q + 1) + 1)) (92 + 3 * m) (nI q)) (92 + 3 * m + 1) (nI (H + st / 4))) (92 + 3 * m + 2) (nI arm)) 7 (nI (m + 1)) (92 + 3 * m + 2) = nI arm := by rw [pk_un (by omega), pk_us]
  have ws : upd (upd (upd (upd (upd (suS0 (y.2 0) (nI arm) (nI st)) (76 + 2 * q + 1) (y.2 0 (76 + 2 * q + 1) + 1)) (92 + 3 * m) (nI q)) (92 + 3 * m + 1) (nI (H + st / 4))) (92 + 3 * m + 2) (nI arm)) 7 (nI (m + 1)) (76 + 2 * q + 1) = y.2 0 (76 + 2 * q + 1) + 1 := by rw [pk_un (by omega), pk_un (by omega), pk_un (by omega), pk_un (by omega), pk_us]
  have lo : ∀ i, i < 76 → i ≠ 7 → upd (upd (upd (upd (upd (suS0 (y.2 0) (nI arm) (nI st)) (76 + 2 * q + 1) (y.2 0 (76 + 2 * q + 1) + 1)) (92 + 3 * m) (nI q)) (92 + 3 * m + 1) (nI (H + st / 4))) (92 + 3 * m + 2) (nI arm)) 7 (nI (m + 1)) i = suS0 (y.2 0) (nI arm) (nI st) i := by
    intro i hi h7
    rw [pk_un h7, pk_un (by omega), pk_un (by omega), pk_un (by omega), pk_un (by omega)]
  generalize upd (upd (upd (upd (upd (suS0 (y.2 0) (nI arm) (nI st)) (76 + 2 * q + 1) (y.2 0 (76 + 2 * q + 1) + 1)) (92 + 3 * m) (nI q)) (92 + 3 * m + 1) (nI (H + st / 4))) (92 + 3 * m + 2) (nI arm)) 7 (nI (m + 1)) = v at *
  have w2 : v 2 = nI (z - 1) := by
    rw [lo 2 (by decide) (by decide)]
    unfold suS0
    rw [pk_us, z2, show z = z - 1 + 1 by omega, nI_pred, Nat.add_sub_cancel]
  have w9 : v 9 = nI (b0 + 1) := by
    rw [lo 9 (by decide) (by decide)]
    unfold suS0 suB
    rw [pk_un (by decide), pk_un (by decide), pk_us, q4, nI_1]
  have w11 : v 11 = nI (s + st) := by
    rw [lo 11 (by decide) (by decide)]
    unfold suS0 suB
    rw [pk_un (by decide), pk_us, s2, nI_add]
  have nv : nL v = m + 1 := by rw [nL, w7, nI_clamp (by omega)]
  have v0 : v 0 = y.2 0 0 := o 0 (by decide) (by decide) (by decide) (by decide) (by decide) (by omega) (by omega) (by omega) (by omega)
  have v3 : v 3 = y.2 0 3 := o 3 (by decide) (by decide) (by decide) (by decide) (by decide) (by omega) (by omega) (by omega) (by omega)
  have v6 : v 6 = y.2 0 6 := o 6 (by decide) (by decide) (by decide) (by decide) (by decide) (by omega) (by omega) (by omega) (by omega)
  have ev : vEq (y.2 0) v 12 76 := fun i h1 h2 => o i (by omega) (by omega) (by omega) (by omega) (by omega) (by omega) (by omega) (by omega) (by omega)
  have ec : ∀ p, v (76 + 2 * p) = y.2 0 (76 + 2 * p) ∨ 8 ≤ p := by
    intro p
    rcases Nat.lt_or_ge p 8 with h | h
    · exact Or.inl (o _ (by omega) (by omega) (by omega) (by omega) (by omega) (by omega) (by omega) (by omega) (by omega))
    · exact Or.inr h
  have er : ∀ l, l ≠ m → l < 8 → vRow v l = vRow (y.2 0) l := by
    intro l hl h8
    unfold vRow
    rw [o _ (by omega) (by omega) (by omega) (by omega) (by omega) (by omega) (by omega) (by omega) (by omega), o _ (by omega) (by omega) (by omega) (by omega) (by omega) (by omega) (by omega) (by omega) (by omega), o _ (by omega) (by omega) (by omega) (by omega) (by omega) (by omega) (by omega) (by omega) (by omega)]
  have em : vRow v m = (nI q, nI (H + st / 4), nI arm) := by unfold vRow; rw [wp0, wp1, wp2]
  have tc : ∀ z, isN z 64 → f_X12_isTree v z = f_X12_isTree (y.2 0) z := fun z hz => isTree_c hz ev
  refine ⟨⟨?_, rcT_c R.T hc1 ev, ?_, ?_, ?_⟩, ?_, ?_, ?_, ?_⟩
  · have h1 := rcN_S (rcN_S hC (k := 7) (by decide) (by decide) ((x.1 0).2.1 7 - 1)) (k := 6) (by decide) (by decide) ((x.1 0).2.1 6 + 1)
    refine rcN_c (rcN_v h1 ?_) hn1
    intro i h1 h2
    show v i = upd (upd (suB (y.2 0) (nI arm) (nI st)) 2 ((x.1 0).2.1 7 - 1)) 7 ((x.1 0).2.1 6 + 1) i
    by_cases e : i = 7
    · subst e; rw [pk_us, w7, R.n6, eL, nI_1]
    · rw [pk_un e, lo i (by omega) e, R.n7]
      rfl
  · have RP := R.P
    unfold rcP at RP ⊢
    rw [nP, v6, hc0, hc4]
    refine ⟨fun p hp => ?_, fun p h1 h2 => ?_⟩
    · have hp2 : p < nP (y.2 0) := hp
      rcases ec p with e | e
      · rw [e]
        refine ⟨(RP.1 p hp).1, ?_⟩
        by_cases e2 : p = q
        · subst e2
          rw [pk_us, ws, (RP.1 p hp).2]
        · rw [pk_un e2, o _ (by omega) (by omega) (by omega) (by omega) (by omega) (by omega) (by omega) (by omega) (by omega)]
          exact (RP.1 p hp).2
      · omega
    · have h2 : nP (y.2 0) ≤ p := h2
      rw [pk_un (by omega)]
      exact RP.2 p h1 h2
  · refine rcL_i.2 (fun l hl => ?_)
    rw [nv] at hl
    rw [hr]
    by_cases e : l = m
    · subst e
      rw [if_pos rfl, em, R.n4, eH, show (4 : Int32) = nI 4 from rfl, pk_div (by omega) (by decide) (by decide), nI_add]
    · rw [if_neg e, er l e (by omega)]
      exact rcL_i.1 R.L l (by omega)
  · unfold rcA
    rw [hn1]
    exact hA
  · exact ⟨by rw [v6]; exact b1, ⟨m + 1, by omega, w7⟩, by rw [v3]; exact b3, by rw [o 4 (by decide) (by decide) (by decide) (by decide) (by decide) (by omega) (by omega) (by omega) (by omega)]; exact b4, by rw [o 5 (by decide) (by decide) (by decide) (by decide) (by decide) (by omega) (by omega) (by omega) (by omega)]; exact b5, by rw [v0]; exact ⟨H, by omega, eH⟩, ⟨z - 1, by omega, w2⟩, ⟨a, b0 + 1, by omega, by omega, by rw [o 10 (by decide) (by decide) (by decide) (by decide) (by decide) (by omega) (by omega) (by omega) (by omega)]; exact q3, w9⟩, ⟨s + st, by omega, w11⟩⟩
  · intro p hp
    rcases ec p with e | e
    · rw [e]; exact R.Q p hp
    · omega
  · have RD := R.D
    unfold vD at RD ⊢
    rw [nP, v6, v3, tc _ b3]
    refine ⟨RD.1, fun p hp => ?_⟩
    have hp2 : p < nP (y.2 0) := hp
    rcases ec p with e | e
    · rw [e, tc _ (R.Q p (by omega))]
      refine ⟨(RD.2 p hp).1, (RD.2 p hp).2.1, fun r hr2 e2 => (RD.2 p hp).2.2 r hr2 ?_⟩
      have hr3 : r < nP (y.2 0) := hr2
      rcases ec r with e3 | e3
      · rw [← e3]; exact e2
      · omega
    · omega
  · have RE := R.E
    have hv0 : (y.2 0 0).toNatClampNeg = H := by rw [eH, nI_clamp (by omega)]
    have rr : ∀ {i} {a b c : Int32}, vRow v i = (a, b, c) → v (92 + 3 * i) = a ∧ v (92 + 3 * i + 1) = b ∧ v (92 + 3 * i + 2) = c := by
      intro i a b c z
      obtain ⟨z1, z2⟩ := Prod.mk.inj z
      obtain ⟨z2, z3⟩ := Prod.mk.inj z2
      exact ⟨z1, z2, z3⟩
    refine ⟨fun l hl => ?_, fun l hl => ?_⟩
    · by_cases e : l = m
      · subst e
        rw [wp0, wp1, wp2]
        exact ⟨⟨q, by omega, rfl⟩, ⟨H + st / 4, by omega, rfl⟩, ⟨arm, ha, rfl⟩⟩
      · obtain ⟨r1, r2, r3⟩ := rr (er l e hl)
        rw [r1, r2, r3]
        exact ⟨(RE.1 l hl).1, isN_m (RE.1 l hl).2.1 (by omega), (RE.1 l hl).2.2⟩
    · rw [nv] at hl
      rw [v0, hv0]
      have par : ∀ j, j < m → v (92 + 3 * j) = y.2 0 (92 + 3 * j) := fun j hj => (rr (er j (by omega) (by omega))).1
      by_cases e : l = m
      · subst e
        rw [hF, wp1, nI_clamp (by omega), wp0]
        refine ⟨by omega, by omega, fun j hj z => ?_⟩
        rw [nv] at hj
        by_cases e2 : j = l
        · exact e2
        · rw [par j (by omega)] at z
          exact absurd z (hn j (by omega))
      · have lm : l < m := by omega
        have h2 := RE.2 l (by rw [hm]; exact lm)
        rw [hv0] at h2
        rw [hF, (rr (er l e (by omega))).2.1, par l lm]
        refine ⟨h2.1, h2.2.1, fun j hj z => ?_⟩
        rw [nv] at hj
        by_cases e2 : j = m
        · subst e2
          rw [wp0] at z
          exact absurd z.symm (hn l lm)
        · rw [par j (by omega)] at z
          exact h2.2.2 j (by rw [hm]; omega) z
end SUM
