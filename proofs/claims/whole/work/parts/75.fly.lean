/-! FLIGHTS, on both sides. -/
theorem nb_nx {a w : Nat} (ha : a < 64) (hw : w < 8) : f_X11_neighbour (nI a) (nI w) = nI (nx a w) := by
  have h : ∀ w, w < 8 → ∀ n, n < 64 → f_X11_neighbour (nI n) (nI w) = nI (nx n w) := by decide +kernel
  exact h w hw a ha
/-- the same flight so far, of at most m steps -/
def FR (m : Nat) (x : kK) (y : kY) : Prop := ∃ n, n ≤ m ∧ x.2.1 2 = nI n ∧ y.1 7 = nI n ∧ ∀ i, i ≤ n → x.2.2.1 0 i = y.2 4 i ∧ isN (y.2 4 i) 64
theorem FR.mono {m m2 : Nat} {x : kK} {y : kY} (h : FR m x y) (hm : m ≤ m2) : FR m2 x y := by
  obtain ⟨n, h1, h2⟩ := h
  exact ⟨n, by omega, h2⟩
section FLY
variable {hb t : Nat}
theorem st_en {x : kK} {y : kY} {m w : Nat} (R : RJ hb t (x.1 0) (y.2 0)) (F : FR m x y) (hm : m < 35) (hw : w < 8) :
    (f_X4_step x (nI w) = 0 ∧ f_X12_enters y (nI w) = 0 ∧ g_X4_step x (nI w) = x ∧ FR m x (g_X12_enters y (nI w)) ∧ (g_X12_enters y (nI w)).1 8 = 1) ∨ (f_X4_step x (nI w) = 1 ∧ f_X12_enters y (nI w) = 1 ∧ FR (m + 1) (g_X4_step x (nI w)) (g_X12_enters y (nI w)) ∧ (g_X12_enters y (nI w)).1 8 = 0) := by
  obtain ⟨n, h1, h2, h3, h4⟩ := F
  obtain ⟨e1, a, ha, e2⟩ := h4 n (Nat.le_refl _)
  unfold f_X4_step f_X12_enters g_X4_step g_X12_enters
  rw [h2, h3, nI_clamp (show n < 2 ^ 31 by omega), e1, e2, nb_nx ha hw, next_nx ha hw]
  have et : f_X12_isTree (y.2 0) (nI (nx a w)) = b2i (bitA (x.1 0).1 (nI (nx a w))) := by
    rw [isTree_at nx_lt, bitA_tb nx_lt, R.T _ nx_lt]
    cases tb (x.1 0).1 (nx a w) <;> rfl
  rw [et]
  by_cases ht : b2i (bitA (x.1 0).1 (nI (nx a w))) = 0
  · right
    have l35 : nI n < 35 := nI_lt (b := 35) (by omega) (by omega)
    rw [if_pos ht, if_pos ht, if_pos ht, if_pos ht, if_pos l35, if_pos l35, nI_1, nI_clamp (show n + 1 < 2 ^ 31 by omega)]
    refine ⟨rfl, rfl, ⟨n + 1, by omega, rfl, rfl, fun i hi => ?_⟩, ?_⟩
    · show upd (x.2.2.1 0) (n + 1) _ i = upd (y.2 4) (n + 1) _ i ∧ isN (upd (y.2 4) (n + 1) _ i) 64
      by_cases e : i = n + 1
      · subst e; rw [pk_us, pk_us]; exact ⟨rfl, ⟨_, nx_lt, rfl⟩⟩
      · rw [pk_un e, pk_un e]; exact h4 i (by omega)
    · show upd (upd y.1 8 (b2i (bitA (x.1 0).1 (nI (nx a w))))) 7 (nI (n + 1)) 8 = 0
      rw [pk_un (by decide), pk_us, ht]
  · left
    rw [if_neg ht, if_neg ht, if_neg ht, if_neg ht]
    refine ⟨rfl, rfl, rfl, ⟨n, h1, h2, ?_, h4⟩, ?_⟩
    · show upd y.1 8 (b2i (bitA (x.1 0).1 (nI (nx a w)))) 7 = nI n
      rw [pk_un (by decide)]; exact h3
    · show upd y.1 8 (b2i (bitA (x.1 0).1 (nI (nx a w)))) 8 = 1
      rw [pk_us]
      revert ht
      cases bitA (x.1 0).1 (nI (nx a w)) <;> intro ht
      · exact absurd rfl ht
      · rfl
theorem flA_0 {d : Int32} {k : Nat} {x : kK} : flA d k x 0 = (x, 0) := by
  cases k with
  | zero => rfl
  | succ k => rw [flA, if_pos rfl]
theorem en_v0 {y : kY} {w : Int32} : (g_X12_enters y w).2 0 = y.2 0 := by
  unfold g_X12_enters
  split <;> rfl
/-- what has come out of a part of a flight: stopped or not -/
def FO (m : Nat) (z : kK × Int32) (u : (kY × Int32) ⊕ kY) : Prop := (z.2 = 0 ∧ ∃ y, u = .inl (y, y.1 7) ∧ FR m z.1 y ∧ y.1 8 = 1) ∨ (z.2 = 1 ∧ ∃ y, u = .inr y ∧ FR m z.1 y ∧ y.1 8 = 0)
theorem arm_eq {k : Nat} {a : Int32} {w : Nat} (hw : w < 8) : ∀ {x : kK} {y : kY} {m j : Nat}, RJ hb t (x.1 0) (y.2 0) → FR m x y → y.1 8 = 0 → m + k ≤ 35 → FO (m + k) (flA (nI w) k x 1) (fiI a (nI w) k y j) ∧ (∀ y2, fiI a (nI w) k y j = .inr y2 → y2.2 0 = y.2 0) ∧ (flA (nI w) k x 1).1.1 = x.1 := by
  induction k with
  | zero => intro x y m j R F h0 _; exact ⟨Or.inr ⟨rfl, y, rfl, F, h0⟩, fun y2 e => by cases e; rfl, rfl⟩
  | succ k ih =>
    intro x y m j R F h0 hm
    rw [flA, if_neg (by decide), fiI]
    rcases st_en R F (by omega) hw with ⟨e1, e2, e3, e4, e5⟩ | ⟨e1, e2, e3, e4⟩
    · rw [e1, e2, if_pos rfl, e3, flA_0]
      exact ⟨Or.inl ⟨rfl, _, rfl, e4.mono (by omega), e5⟩, fun y2 e => (by cases e), rfl⟩
    · rw [e1, e2, if_neg (by decide)]
      have R2 : RJ hb t ((g_X4_step x (nI w)).1 0) ((g_X12_enters y (nI w)).2 0) := by rw [step_core, en_v0]; exact R
      obtain ⟨g1, g2, g3⟩ := ih (j := j + 1) R2 e3 e4 (by omega)
      rw [show m + (k + 1) = m + 1 + k by omega]
      exact ⟨g1, fun y2 e => (g2 y2 e).trans en_v0, g3.trans step_core⟩
theorem flP_0 {arm : Nat} {turn : Int32} {k j : Nat} {d : Int32} {x : kK} : flP arm turn k j d (x, 0) = (x, 0) := by
  cases k with
  | zero => rfl
  | succ k => rw [flP, if_pos rfl]
theorem turn_w {w s : Nat} (hw : w < 8) (hs : s ≤ 7) : nI w + nI s - (nI w + nI s) / 8 * 8 = nI ((w + s) % 8) := by
  rw [nI_add]
  exact pk_rem (d := 8) (by omega) (by decide) (by decide)
theorem part_eq {a : Int32} {arm : Nat} (harm : arm ≤ 4) (e1 : (f_X11_armOf a).toNatClampNeg = arm) (e2 : (f_X12_arm a).toNatClampNeg = arm) {k : Nat} : ∀ {x : kK} {y : kY} {j w : Nat}, j + k = 8 → w < 8 → RJ hb t (x.1 0) (y.2 0) → FR (4 * j + min j 3) x y → y.1 8 = 0 → FO 35 (flP arm (if 32 ≤ a then 7 else 1) k j (nI w) (x, 1)) (fiL a k y j (nI w)) ∧ (flP arm (if 32 ≤ a then 7 else 1) k j (nI w) (x, 1)).1.1 = x.1 := by
  induction k with
  | zero =>
    intro x y j w hj _ R F h0
    exact ⟨Or.inr ⟨rfl, y, rfl, F.mono (by omega), h0⟩, rfl⟩
  | succ k ih =>
    intro x y j w hj hw R F h0
    rw [flP, if_neg (show ¬ ((x, (1 : Int32)).2 = 0) from z10), fiL, e2]
    obtain ⟨g1, g2, g3⟩ := arm_eq (k := arm) (a := a) hw (j := 0) R F h0 (by omega)
    have tw : ∀ z : kY, (if 32 ≤ a then fiL a k z (j + 1) (nI w + 7 - (nI w + 7) / 8 * 8) else fiL a k z (j + 1) (nI w + 1 - (nI w + 1) / 8 * 8)) = fiL a k z (j + 1) (nI ((w + (if 32 ≤ a then 7 else 1)) % 8)) := by
      intro z
      split
      · rw [show (7 : Int32) = nI 7 from rfl, turn_w hw (by omega)]
      · rw [show (1 : Int32) = nI 1 from rfl, turn_w hw (by omega)]
    have td : nI w + (if 32 ≤ a then 7 else 1) - (nI w + (if 32 ≤ a then 7 else 1)) / 8 * 8 = nI ((w + (if 32 ≤ a then 7 else 1)) % 8) := by
      split
      · rw [show (7 : Int32) = nI 7 from rfl, turn_w hw (by omega)]
      · rw [show (1 : Int32) = nI 1 from rfl, turn_w hw (by omega)]
    have w8 : (w + (if 32 ≤ a then 7 else 1)) % 8 < 8 := Nat.mod_lt _ (by decide)
    rw [td]
    generalize (w + (if 32 ≤ a then 7 else 1)) % 8 = w2 at *
    rcases g1 with ⟨z1, y2, u1, u2, u3⟩ | ⟨z1, y2, u1, u2, u3⟩
    · have zz : flA (nI w) arm x 1 = ((flA (nI w) arm x 1).1, 0) := Prod.ext rfl z1
      have fw : flW j (flA (nI w) arm x 1) = ((flA (nI w) arm x 1).1, 0) := by
        unfold flW
        rw [if_pos z1]
        exact zz
      rw [fw, flP_0, u1, Sum.elim_inl]
      exact ⟨Or.inl ⟨rfl, y2, rfl, u2.mono (by omega), u3⟩, g3⟩
    · rw [u1, Sum.elim_inr]
      have v2 := g2 y2 u1
      generalize hx1 : (flA (nI w) arm x 1).1 = x1 at *
      have zz : flA (nI w) arm x 1 = (x1, 1) := Prod.ext hx1 z1
      rw [zz]
      have R1 : RJ hb t (x1.1 0) (y2.2 0) := by rw [g3, v2]; exact R
      obtain ⟨wd, hwd, ewd⟩ := R1.B.2.2.2.1
      obtain ⟨ws, hws, ews⟩ := R1.B.2.2.2.2.1
      rw [ews, ewd]
      unfold flW
      rw [if_neg (show ¬ ((x1, (1 : Int32)).2 = 0) from z10)]
      rw [show ((x1, (1 : Int32)).1.1 0).2.1 2 = nI ws by rw [← ews]; exact R1.n2, show ((x1, (1 : Int32)).1.1 0).2.1 1 = nI wd by rw [← ewd]; exact R1.n1]
      by_cases h : nI ws ≤ nI j
      · rw [if_pos h, if_pos h, tw]
        obtain ⟨i1, i2⟩ := ih (j := j + 1) (w := w2) (by omega) w8 R1 (u2.mono (by omega)) u3
        exact ⟨i1, i2.trans g3⟩
      · rw [if_neg h, if_neg h]
        have hj2 : j < ws := by
          rcases Nat.lt_or_ge j ws with q | q
          · exact q
          · exact absurd (nI_le q (by omega)) h
        rcases st_en R1 u2 (by omega) hwd with ⟨e1, e2, e3, e4, e5⟩ | ⟨e1, e2, e3, e4⟩
        · rw [e1, e2, if_pos rfl, e3, flP_0]
          exact ⟨Or.inl ⟨rfl, _, rfl, e4.mono (by omega), e5⟩, g3⟩
        · rw [e1, e2, if_neg z10, tw]
          have R2 : RJ hb t ((g_X4_step x1 (nI wd)).1 0) ((g_X12_enters y2 (nI wd)).2 0) := by rw [step_core, en_v0]; exact R1
          obtain ⟨i1, i2⟩ := ih (j := j + 1) (w := w2) (by omega) w8 R2 (e3.mono (by omega)) e4
          exact ⟨i1, (i2.trans step_core).trans g3⟩
/-- a flight: its cells, its steps, its end -/
theorem fly_eq {x : kK} {y : kY} {p : Nat} (R : RJ hb t (x.1 0) (y.2 0)) (hp : p < 64) : FR 35 (g_X4_fly x (nI p)) (g_X12_flies y (nI p)) ∧ f_X12_flies y (nI p) = (g_X12_flies y (nI p)).1 7 ∧ (g_X4_fly x (nI p)).2.1 3 = f_X12_endsBy (g_X12_flies y (nI p)) ∧ (g_X12_flies y (nI p)).2 0 = y.2 0 := by
  have v0 := (flies_ok (a := nI p) ⟨p, hp, rfl⟩ R.mv).1
  have ar : ∀ p, p < 64 → (f_X11_armOf (nI p)).toNatClampNeg = 1 + p / 8 % 4 ∧ (f_X12_arm (nI p)).toNatClampNeg = 1 + p / 8 % 4 := by decide +kernel
  have wy : nI p - nI p / 8 * 8 = nI (p % 8) := pk_rem (d := 8) (by omega) (by decide) (by decide)
  have F0 : FR (4 * 0 + min 0 3) (kkS (kkR x 0 (upd (x.2.2.1 0) 0 ((x.1 0).2.1 0))) 2 0) (yS (yR (yS y 7 0) 4 (upd (y.2 4) 0 (y.2 0 3))) 8 0) := by
    refine ⟨0, by omega, rfl, rfl, fun i hi => ?_⟩
    have : i = 0 := by omega
    subst this
    show upd (x.2.2.1 0) 0 _ 0 = upd (y.2 4) 0 _ 0 ∧ isN (upd (y.2 4) 0 _ 0) 64
    rw [pk_us, pk_us]
    exact ⟨R.n0, R.B.2.2.1⟩
  have R0 : RJ hb t ((kkS (kkR x 0 (upd (x.2.2.1 0) 0 ((x.1 0).2.1 0))) 2 0).1 0) ((yS (yR (yS y 7 0) 4 (upd (y.2 4) 0 (y.2 0 3))) 8 0).2 0) := R
  obtain ⟨g1, g2⟩ := part_eq (a := nI p) (arm := 1 + p / 8 % 4) (by omega) (ar p hp).1 (ar p hp).2 (k := 8) (j := 0) (w := p % 8) (by omega) (by omega) R0 F0 rfl
  have fl : fly0 x (nI p) = flP (1 + p / 8 % 4) (if 32 ≤ nI p then 7 else 1) 8 0 (nI (p % 8)) (kkS (kkR x 0 (upd (x.2.2.1 0) 0 ((x.1 0).2.1 0))) 2 0, 1) := by
    unfold fly0
    rw [(ar p hp).1, wy]
  revert v0
  unfold g_X4_fly g_X12_flies f_X12_flies f_X12_endsBy
  rw [fl, wy]
  generalize flP (1 + p / 8 % 4) (if 32 ≤ nI p then 7 else 1) 8 0 (nI (p % 8)) (kkS (kkR x 0 (upd (x.2.2.1 0) 0 ((x.1 0).2.1 0))) 2 0, 1) = z at *
  generalize fiL (nI p) 8 (yS (yR (yS y 7 0) 4 (upd (y.2 4) 0 (y.2 0 3))) 8 0) 0 (nI (p % 8)) = u at *
  intro v0
  have g2 : z.1.1 = x.1 := g2
  rcases g1 with ⟨z1, y2, u1, u2, u3⟩ | ⟨z1, y2, u1, u2, u3⟩
  · subst u1
    rw [Sum.elim_inl] at v0
    have v0 : y2.2 0 = y.2 0 := v0
    rw [Sum.elim_inl, Sum.elim_inl]
    refine ⟨u2, rfl, ?_, v0⟩
    show (if z.2 = 0 then (116 : Int32) else _) = _
    rw [if_pos z1, u3, if_neg (by decide)]
  · subst u1
    rw [Sum.elim_inr] at v0
    have v0 : y2.2 0 = y.2 0 := v0
    rw [Sum.elim_inr, Sum.elim_inr]
    refine ⟨u2, rfl, ?_, v0⟩
    show (if z.2 = 0 then (116 : Int32) else if (z.1.2.2.1 0) (z.1.2.1 2).toNatClampNeg = (z.1.1 0).2.1 0 then 99 else 103) = _
    rw [if_neg (by rw [z1]; decide), u3, if_pos rfl]
    obtain ⟨n, h1, h2, h3, h4⟩ := u2
    rw [h2, h3, nI_clamp (by omega), (h4 n (Nat.le_refl _)).1, v0, g2, R.n0]
end FLY
/-! what a flight tells -/
theorem FR.n {m : Nat} {x : kK} {y : kY} (h : FR m x y) (hm : m < 2 ^ 30) : x.2.1 2 = y.1 7 ∧ (x.2.1 2).toNatClampNeg = (y.1 7).toNatClampNeg ∧ (y.1 7).toNatClampNeg ≤ m ∧ y.1 7 = nI (y.1 7).toNatClampNeg ∧ ∀ i, i ≤ (y.1 7).toNatClampNeg → x.2.2.1 0 i = y.2 4 i ∧ isN (y.2 4 i) 64 := by
  obtain ⟨n, h1, h2, h3, h4⟩ := h
  rw [h2, h3, nI_clamp (by omega)]
  exact ⟨rfl, rfl, h1, rfl, h4⟩
theorem ec_fb {y : kY} {f : Nat → Int32} {n k : Nat} (hn : n < 2 ^ 30) (h : ∀ i, i ≤ n → f i = y.2 4 i) : ∀ {j : Nat} {s : Int64}, j + k = n + 1 → ecL f k j s = fbL y n k j s := by
  induction k with
  | zero => intro j s _; rfl
  | succ k ih =>
    intro j s hj
    rw [ecL, fbL, nI_clamp (by omega), h j (by omega), ih (by omega)]
theorem sv_pF {y : kY} {p : Int32} {f : Nat → Int32} {n k : Nat} (hn : n < 2 ^ 30) (h : ∀ i, i ≤ n → f i = y.2 4 i) : ∀ {j : Nat}, j + k = n + 1 → (pFind f (f_X12_cellOfParty (y.2 0) p) k j = -1 ∧ ∃ z, svL y p n k j = .inr z) ∨ ∃ i, j ≤ i ∧ i ≤ n ∧ pFind f (f_X12_cellOfParty (y.2 0) p) k j = nI i ∧ svL y p n k j = .inl (nI i) := by
  induction k with
  | zero => intro j _; exact Or.inl ⟨rfl, _, rfl⟩
  | succ k ih =>
    intro j hj
    rw [pFind, svL, nI_clamp (by omega), h j (by omega)]
    by_cases e : y.2 4 j = f_X12_cellOfParty (y.2 0) p
    · rw [if_pos e, if_pos e]
      exact Or.inr ⟨j, Nat.le_refl _, by omega, rfl, rfl⟩
    · rw [if_neg e, if_neg e]
      rcases ih (j := j + 1) (by omega) with q | ⟨i, i1, i2, i3⟩
      · exact Or.inl q
      · exact Or.inr ⟨i, by omega, i2, i3⟩
section FLY2
variable {hb t : Nat} {x : kK} {y : kY}
/-- after how many steps a throw serves a party -/
theorem sv_eq (R : RJ hb t (x.1 0) (y.2 0)) {p q : Nat} (hp : p < 64) (hq : q < nP (y.2 0)) :
    (pFind ((g_X4_fly x (nI p)).2.2.1 0) ((x.1 0).2.2 0 q) (Int32.toNatClampNeg ((g_X4_fly x (nI p)).2.1 2)) 1 = -1 ∧ f_X12_serves y (nI p) (nI q) = 0) ∨ ∃ i, 1 ≤ i ∧ i ≤ 35 ∧ pFind ((g_X4_fly x (nI p)).2.2.1 0) ((x.1 0).2.2 0 q) (Int32.toNatClampNeg ((g_X4_fly x (nI p)).2.1 2)) 1 = nI i ∧ f_X12_serves y (nI p) (nI q) = nI i := by
  have n8 := R.nP8
  obtain ⟨F, fe, -, v0⟩ := fly_eq R hp
  obtain ⟨f1, f2, f3, f4, f5⟩ := F.n (by omega)
  have ce : f_X12_cellOfParty ((g_X12_flies y (nI p)).2 0) (nI q) = (x.1 0).2.2 0 q := by
    unfold f_X12_cellOfParty
    rw [v0, (R.P.1 q hq).1, show (2 : Int32) = nI 2 from rfl, pk_mul, show (76 : Int32) = nI 76 from rfl, nI_add, nI_clamp (by omega)]
  have h := sv_pF (y := g_X12_flies y (nI p)) (p := nI q) (f := (g_X4_fly x (nI p)).2.2.1 0) (n := ((g_X12_flies y (nI p)).1 7).toNatClampNeg) (k := ((g_X12_flies y (nI p)).1 7).toNatClampNeg) (by omega) (fun i hi => (f5 i hi).1) (j := 1) (by omega)
  rw [ce] at h
  unfold f_X12_serves
  rw [fe, f2]
  rcases h with ⟨e1, z, e2⟩ | ⟨i, i1, i2, e1, e2⟩
  · left
    rw [e1, e2, Sum.elim_inr]
    exact ⟨rfl, rfl⟩
  · right
    rw [e1, e2, Sum.elim_inl]
    exact ⟨i, i1, by omega, rfl, rfl⟩
theorem sv_g (R : RJ hb t (x.1 0) (y.2 0)) {p : Nat} (hp : p < 64) {q : Int32} : g_X12_serves y (nI p) q = g_X12_flies y (nI p) := serves_g
end FLY2
