/-! THE BEST THROW; the signature; a row of the yard described. -/
section BST
variable {t hb : Nat} {x x2 : kK} {y y2 : kY}
theorem neg1 {i : Nat} (hi : i < 2 ^ 31) : ¬ nI i = (-1 : Int32) := by
  intro z
  have z2 : nI i < 0 := by rw [z]; decide
  exact nI_pos hi z2
theorem lt_nle {a b : Int32} : a < b ↔ ¬ b ≤ a := Int32.not_le.symm
theorem le_ncs {a b : Int32} (h : ¬ b < a) (h2 : ¬ a = b) : ¬ b ≤ a := by
  intro z
  have z1 := Int32.le_iff_toInt_le.1 z
  have h1 : ¬ b.toInt < a.toInt := fun w => h (Int32.lt_iff_toInt_lt.2 w)
  exact h2 (Int32.toInt_inj.1 (by omega))
theorem qs_be {q : Nat} {c : Int32} {k : Nat} : ∀ {x : kK} {y : kY} {j : Nat} {b s : Int32}, j + k = 64 → RX t x y → y.1 0 = 0 → q < nP (y.2 0) → (x.1 0).2.2 0 q = c → (b = -1 ∨ ∃ p, p < 64 ∧ b = nI p) → RX t (qsL c k x j b s).1 (beL (nI q) k y j b s).1 ∧ (qsL c k x j b s).2 = (beL (nI q) k y j b s).2 ∧ (beL (nI q) k y j b s).1.1 0 = 0 ∧ ((qsL c k x j b s).2 = -1 ∨ ∃ p, p < 64 ∧ (qsL c k x j b s).2 = nI p) := by
  induction k with
  | zero => intro x y j b s _ X h0 _ _ hb; exact ⟨X, rfl, h0, hb⟩
  | succ k ih =>
    intro x y j b s hj X h0 hq hc hb
    have hj6 : j < 64 := by omega
    have sv := sv_eq X.R hj6 hq
    rw [hc] at sv
    have Y := RX_fly X hj6
    have k0 := (kYf_fl X.R hj6).2
    have v0 := (kYf_fl X.R hj6).1.2 0 (by decide)
    have go : ∀ b2 s2, (b2 = -1 ∨ ∃ p, p < 64 ∧ b2 = nI p) → RX t (qsL c k (g_X4_fly x (nI j)) (j + 1) b2 s2).1 (beL (nI q) k (g_X12_flies y (nI j)) (j + 1) b2 s2).1 ∧ (qsL c k (g_X4_fly x (nI j)) (j + 1) b2 s2).2 = (beL (nI q) k (g_X12_flies y (nI j)) (j + 1) b2 s2).2 ∧ (beL (nI q) k (g_X12_flies y (nI j)) (j + 1) b2 s2).1.1 0 = 0 ∧ ((qsL c k (g_X4_fly x (nI j)) (j + 1) b2 s2).2 = -1 ∨ ∃ p, p < 64 ∧ (qsL c k (g_X4_fly x (nI j)) (j + 1) b2 s2).2 = nI p) := fun b2 s2 h => ih (by omega) Y (k0.trans h0) (by rw [v0]; exact hq) (by rw [fly_ok.2]; exact hc) h
    have hn : nI j = -1 ∨ ∃ p, p < 64 ∧ nI j = nI p := Or.inr ⟨j, hj6, rfl⟩
    rw [qsL, beL, serves_g]
    rcases sv with ⟨s1, s2⟩ | ⟨i, i1, i2, s1, s2⟩
    · rw [s1, s2, if_pos rfl, if_pos rfl]
      exact go b s hb
    · have ni : ¬ nI i = 0 := nI_ne0 (by omega) (by omega)
      rw [s1, s2, if_neg (neg1 (by omega)), if_neg ni]
      rcases hb with e | ⟨p, hp, e⟩
      · rw [if_pos e, if_pos e, if_pos (show b < 0 by rw [e]; decide)]
        exact go _ _ hn
      · have b1 : ¬ b = -1 := by rw [e]; exact neg1 (by omega)
        have b0 : ¬ b < 0 := by rw [e]; exact nI_pos (by omega)
        rw [if_neg b1, if_neg b1, if_neg b1, if_neg b0, show f_X11_armOf (nI j) = f_X12_arm (nI j) from rfl, show f_X11_armOf b = f_X12_arm b from rfl]
        by_cases h1 : f_X12_arm b < f_X12_arm (nI j)
        · have h2 : f_X12_arm b ≤ f_X12_arm (nI j) := Int32.le_of_lt h1
          have h3 : ¬ f_X12_arm (nI j) = f_X12_arm b := by
            intro z
            rw [z] at h1
            exact Int32.lt_irrefl h1
          rw [if_pos h2, if_neg h3, if_pos h1]
          exact go b s (Or.inr ⟨p, hp, e⟩)
        · rw [if_neg h1]
          by_cases h3 : f_X12_arm (nI j) = f_X12_arm b
          · have h2 : f_X12_arm b ≤ f_X12_arm (nI j) := by rw [h3]; exact Int32.le_refl _
            rw [if_pos h2, if_pos h3, if_pos h3]
            by_cases h4 : s ≤ nI i
            · rw [if_pos h4, if_neg (fun z => lt_nle.1 z h4)]
              exact go b s (Or.inr ⟨p, hp, e⟩)
            · rw [if_neg h4, if_pos (lt_nle.2 h4)]
              exact go _ _ hn
          · have h2 : ¬ f_X12_arm b ≤ f_X12_arm (nI j) := le_ncs h1 h3
            rw [if_neg h2, if_neg h3, if_neg h3]
            exact go _ _ hn
theorem q_bestThrow (X : RX t x y) {a : Int32} : RX t (g_X11_bestThrow x a) (g_X12_bestThrow y a) ∧ (okI (o_X11_bestThrow x a) (g_X12_bestThrow y a) (f_X12_bestThrow y a) ∨ exE (o_X11_bestThrow x a) (g_X12_bestThrow y a) "java/lang/IndexOutOfBoundsException" 1 ∨ exE (o_X11_bestThrow x a) (g_X12_bestThrow y a) "java/util/NoSuchElementException" 2) := by
  have n8 := X.R.nP8
  unfold g_X11_bestThrow g_X12_bestThrow o_X11_bestThrow f_X12_bestThrow f_X11_quickestShortestThrow g_X11_quickestShortestThrow
  rcases pty_cs X.R a with ⟨e1, e2⟩ | ⟨e1, e2, q, hq, rfl⟩
  · rw [if_pos e1, if_pos e1, if_pos e2, if_pos e2]
    exact ⟨RX_s X 1, Or.inr (Or.inl ⟨rfl, rfl⟩)⟩
  · rw [e1, e2, if_neg z10, if_neg z10, if_neg z10, if_neg z10, nI_clamp (by omega), ite_self]
    obtain ⟨h1, h2, h3, h4⟩ := qs_be (t := t) (q := q) (c := (x.1 0).2.2 0 q) (k := 64) (j := 0) (b := -1) (s := 0) (by omega) (RX_s X 0) rfl hq rfl (Or.inl rfl)
    rw [← h2]
    rcases h4 with e | ⟨p, hp, e⟩
    · rw [e, if_pos rfl, if_neg (show ¬ (0 : Int32) ≤ -1 by decide), if_neg (show ¬ (0 : Int32) ≤ -1 by decide)]
      exact ⟨RX_s h1 2, Or.inr (Or.inr ⟨rfl, rfl⟩)⟩
    · rw [e, if_neg (neg1 (by omega)), if_pos (nI_pos' (by omega)), if_pos (nI_pos' (by omega))]
      exact ⟨h1, Or.inl ⟨rfl, h3⟩⟩
/-! signature -/
theorem sg_si {n k : Nat} (hn : n ≤ 8) (h : ∀ p, p < n → (x.1 0).2.2 0 p = y.2 0 (76 + 2 * p)) : ∀ {j : Nat} {s : Int64}, j + k = n → sgL x k j s = siL (y.2 0) k j s := by
  induction k with
  | zero => intro j s _; rfl
  | succ k ih =>
    intro j s hj
    rw [sgL, siL, cop (by omega), nI_clamp (by omega), h j (by omega), ih (by omega)]
theorem q_signature (X : RX t x y) : f_X11_signature x = f_X12_signature y := by
  have n8 := X.R.nP8
  unfold f_X11_signature f_X12_signature
  have b := (q_treeBits X).2.1
  unfold f_X11_treeBits f_X12_treeBits at b
  rw [← b, X.R.n3]
  exact sg_si n8 (fun p hp => (X.R.P.1 p hp).1) (Nat.zero_add _)
/-! lines written -/
def LN (L : Nat) (x : kK) (y : kY) : Prop := x.2.1 7 = nI L ∧ y.1 12 = nI L ∧ ∀ j, j < L → x.2.2.1 7 j = y.2 7 j ∧ isN (y.2 7 j) 127
def kN7 (x x2 : kK) : Prop := x2.1 = x.1 ∧ (∀ k, k ≠ 7 → x2.2.1 k = x.2.1 k) ∧ (∀ k, k ≠ 7 → x2.2.2.1 k = x.2.2.1 k) ∧ (kLc x → kLc x2)
def kY7 (y y2 : kY) : Prop := (∀ k, k ≠ 12 → y2.1 k = y.1 k) ∧ ∀ r, r ≠ 7 → y2.2 r = y.2 r
theorem kN7_t {x x2 x3 : kK} (h1 : kN7 x x2) (h2 : kN7 x2 x3) : kN7 x x3 := ⟨h2.1.trans h1.1, fun k hk => (h2.2.1 k hk).trans (h1.2.1 k hk), fun k hk => (h2.2.2.1 k hk).trans (h1.2.2.1 k hk), fun h => h2.2.2.2 (h1.2.2.2 h)⟩
theorem kY7_t {y y2 y3 : kY} (h1 : kY7 y y2) (h2 : kY7 y2 y3) : kY7 y y3 := ⟨fun k hk => (h2.1 k hk).trans (h1.1 k hk), fun k hk => (h2.2 k hk).trans (h1.2 k hk)⟩
theorem kN7_r : kN7 x x := ⟨rfl, fun _ _ => rfl, fun _ _ => rfl, id⟩
theorem kY7_r : kY7 y y := ⟨fun _ _ => rfl, fun _ _ => rfl⟩
theorem RX_ln (X : RX t x y) (hx : kN7 x x2) (hy : kY7 y y2) {L : Nat} (hL : L ≤ 32) (h : LN L x2 y2) : RX t x2 y2 := by
  obtain ⟨c, n, r, l⟩ := hx
  obtain ⟨m, s⟩ := hy
  refine ⟨?_, ?_, ?_, ?_, ?_, ?_, ?_, ?_⟩
  · rw [c, s 0 (by decide)]; exact X.R
  · exact rxH_c X.H (Nat.le_refl _) (n 0 (by decide)) (n 1 (by decide)) (fun k _ => by rw [c]) (m 1 (by decide)) (s 3 (by decide))
  · exact rxS_c X.S (Nat.le_refl _) (n 8 (by decide)) (by rw [c]) (m 6 (by decide)) (s 2 (by decide))
  · exact rxK_c X.K (n 9 (by decide)) (n 10 (by decide)) (m 4 (by decide)) (m 5 (by decide))
  · exact rxE_c X.E (n 11 (by decide)) (n 12 (by decide)) (m 2 (by decide)) (m 3 (by decide))
  · exact rxT_c X.T (n 4 (by decide)) (r 5 (by decide)) (m 9 (by decide)) (s 6 (by decide))
  · exact ⟨L, hL, h.1, h.2.1, h.2.2⟩
  · obtain ⟨h1, h2, h3⟩ := X.O
    refine ⟨l h1, ?_, ?_⟩
    · unfold kChn kQu
      rw [r 4 (by decide), r 3 (by decide), r 2 (by decide), r 1 (by decide)]
      exact h2
    · unfold kWo
      rw [s 9 (by decide), s 10 (by decide)]
      exact h3
theorem LN_put {L : Nat} (h : LN L x y) (hL : L < 32) {n : Nat} (hn : n < 127) : LN (L + 1) (g_X8_put x (nI n)) (g_X12_writes y (nI n)) ∧ kN7 x (g_X8_put x (nI n)) ∧ kY7 y (g_X12_writes y (nI n)) := by
  obtain ⟨h1, h2, h3⟩ := h
  have gp : g_X8_put x (nI n) = kkS (kkR x 7 (upd (x.2.2.1 7) L (nI n))) 7 (nI (L + 1)) := by
    unfold g_X8_put
    rw [h1, if_neg (show ¬ 32 ≤ nI L from nI_ge (b := 32) (a := L) (by omega) (by omega)), nI_clamp (by omega), ch_n hn, nI_1]
  have gw : g_X12_writes y (nI n) = yS (yR y 7 (upd (y.2 7) L (nI n))) 12 (nI (L + 1)) := by
    unfold g_X12_writes
    rw [h2, nI_clamp (by omega), nI_1]
  rw [gp, gw]
  refine ⟨⟨by show upd x.2.1 7 (nI (L + 1)) 7 = _; rw [pk_us], by show upd y.1 12 (nI (L + 1)) 12 = _; rw [pk_us], fun j hj => ?_⟩, ⟨rfl, fun k hk => by show upd x.2.1 7 (nI (L + 1)) k = _; rw [pk_un hk], fun k hk => by show va_up x.2.2.1 7 (upd (x.2.2.1 7) L (nI n)) k = _; unfold va_up; rw [if_neg hk], fun hc j hj => ?_⟩, fun k hk => by show upd y.1 12 (nI (L + 1)) k = _; rw [pk_un hk], fun r hr => by show va_up y.2 7 (upd (y.2 7) L (nI n)) r = _; unfold va_up; rw [if_neg hr]⟩
  · show upd (x.2.2.1 7) L (nI n) j = upd (y.2 7) L (nI n) j ∧ isN (upd (y.2 7) L (nI n) j) 127
    by_cases e : j = L
    · subst e; rw [pk_us, pk_us]; exact ⟨rfl, n, hn, rfl⟩
    · rw [pk_un e, pk_un e]; exact h3 j (by omega)
  · show narrow .char (.int (upd (x.2.2.1 7) L (nI n) j)) = .int (upd (x.2.2.1 7) L (nI n) j)
    by_cases e : j = L
    · subst e; rw [pk_us]; exact ch_r hn
    · rw [pk_un e]; exact hc j hj
/-- what stands in a cell, as the reference tells it -/
def sgY (v : Nat → Int32) (q : Nat) : Int32 := if (f_X12_isTree v (nI q)) = 0 then (if v 3 = nI q then 66 else (if (sdL v (nI q) (Int32.toNatClampNeg (v 6)) 0) < 0 then 46 else (48 + (sdL v (nI q) (Int32.toNatClampNeg (v 6)) 0)))) else 84
theorem de_s {r k j : Nat} {y : kY} : deL r (k + 1) y j = deL r k (g_X12_writes y (sgY (y.2 0) (8 * r + j))) (j + 1) := by
  rw [deL]
  unfold sgY
  split
  · split
    · rfl
    · split <;> rfl
  · rfl
theorem sg_eq (R : RJ hb t (x.1 0) (y.2 0)) {q : Nat} (hq : q < 64) : ∃ n, n < 127 ∧ f_X10_signOf x (nI q) = nI n ∧ sgY (y.2 0) q = nI n := by
  have n8 := R.nP8
  have st : sdL (y.2 0) (nI q) (Int32.toNatClampNeg (y.2 0 6)) 0 = pFind ((x.1 0).2.2 0) (nI q) (Int32.toNatClampNeg ((x.1 0).2.1 3)) 0 := by
    rw [R.n3]
    exact sd_pF R.nP8 (fun p hp => (R.P.1 p hp).1) (Nat.zero_add _)
  have tr : f_X12_isTree (y.2 0) (nI q) = b2i (bitA (x.1 0).1 (nI q)) := by
    rw [isTree_at hq, bitA_tb hq, R.T q hq]
    cases tb (x.1 0).1 q <;> rfl
  have D := R.D
  unfold f_X10_signOf sgY
  rw [st]
  rcases pF_s (f := (x.1 0).2.2 0) (c := nI q) (k := Int32.toNatClampNeg ((x.1 0).2.1 3)) (j := 0) with ⟨e, -⟩ | ⟨i, -, i2, i3, e, -⟩
  · rw [e, if_pos rfl, if_pos (show (-1 : Int32) < 0 by decide), ← tr, R.n0]
    by_cases h1 : f_X12_isTree (y.2 0) (nI q) = 0
    · rw [if_pos h1, if_pos h1]
      by_cases h2 : y.2 0 3 = nI q
      · rw [if_pos h2, if_pos h2.symm]; exact ⟨66, by omega, rfl, rfl⟩
      · rw [if_neg h2, if_neg (fun z => h2 z.symm)]; exact ⟨46, by omega, rfl, rfl⟩
    · rw [if_neg h1, if_neg h1]; exact ⟨84, by omega, rfl, rfl⟩
  · have i4 : i < nP (y.2 0) := by rw [R.k3] at i2; omega
    have ci := (R.P.1 i i4).1
    rw [i3] at ci
    have d := D.2 i i4
    rw [← ci] at d
    rw [e, if_neg (neg1 (by omega)), if_pos d.2.1, if_neg (fun z => d.1 z.symm), if_neg (nI_pos (by omega)), show (48 : Int32) = nI 48 from rfl, nI_add, ch_u (by omega)]
    exact ⟨48 + i, by omega, rfl, rfl⟩
theorem dr_de {r : Nat} (hr : r < 8) {k : Nat} : ∀ {x : kK} {y : kY} {j L : Nat}, j + k = 8 → RJ hb t (x.1 0) (y.2 0) → LN L x y → L + k ≤ 32 → LN (L + k) (drL (nI r) k x j) (deL r k y j) ∧ kN7 x (drL (nI r) k x j) ∧ kY7 y (deL r k y j) := by
  induction k with
  | zero => intro x y j L _ _ h _; exact ⟨h, kN7_r, kY7_r⟩
  | succ k ih =>
    intro x y j L hj R h hL
    obtain ⟨n, hn, e1, e2⟩ := sg_eq R (q := 8 * r + j) (by omega)
    rw [drL, de_s, cell_nI (by omega) hr, e1, e2]
    obtain ⟨p1, p2, p3⟩ := LN_put h (by omega) hn
    obtain ⟨g1, g2, g3⟩ := ih (j := j + 1) (L := L + 1) (by omega) (by rw [p2.1, p3.2 0 (by decide)]; exact R) p1 (by omega)
    rw [show L + (k + 1) = L + 1 + k by omega]
    exact ⟨g1, kN7_t p2 g2, kY7_t p3 g3⟩
theorem q_describeRow (X : RX t x y) {a : Int32} : RX t (g_X11_describeRow x a) (g_X12_describeRow y a) ∧ (okI (o_X11_describeRow x a) (g_X12_describeRow y a) (f_X12_describeRow y a) ∨ exE (o_X11_describeRow x a) (g_X12_describeRow y a) "java/lang/IndexOutOfBoundsException" 1) := by
  unfold g_X11_describeRow g_X12_describeRow o_X11_describeRow f_X12_describeRow
  rw [isIn_7]
  have ce : f_X11_isCell 0 a = f_X12_isIn a 0 (nI 8 - 1) := by
    unfold f_X11_isCell
    rw [if_neg (by decide), if_neg (by decide), show (8 : Int32) = nI 8 from rfl]
    rcases in_cs a (n := 8) (by omega) with ⟨e2, h2⟩ | ⟨e2, q, hq, rfl⟩
    · rw [e2]
      rcases h2 with h2 | h2
      · rw [if_pos h2]
      · rw [if_pos h2]; split <;> rfl
    · rw [e2, if_neg (nI_pos (by omega)), if_neg (nI_ge hq (by omega))]
  rw [ce]
  rcases in_cs a (n := 8) (by omega) with ⟨i1, -⟩ | ⟨i1, r, hr, rfl⟩
  · rw [if_pos i1, if_pos i1, if_pos i1, if_pos i1]
    exact ⟨RX_s X 1, Or.inr ⟨rfl, rfl⟩⟩
  · rw [i1, if_neg z10, if_neg z10, if_neg z10, if_neg z10, nI_clamp (by omega)]
    have x0 : kN7 x (kkS x 7 0) := ⟨rfl, fun k hk => by show upd x.2.1 7 0 k = _; rw [pk_un hk], fun _ _ => rfl, id⟩
    have y0 : kY7 (yS y 0 0) (yS (yS y 0 0) 12 0) := ⟨fun k hk => by rw [ys_1, pk_un hk], fun _ _ => rfl⟩
    have l0 : LN 0 (kkS x 7 0) (yS (yS y 0 0) 12 0) := ⟨by show upd x.2.1 7 0 7 = _; rw [pk_us]; rfl, by rw [ys_1, pk_us]; rfl, fun j hj => absurd hj (Nat.not_lt_zero _)⟩
    obtain ⟨g1, g2, g3⟩ := dr_de hr (k := 8) (x := kkS x 7 0) (y := yS (yS y 0 0) 12 0) (j := 0) (L := 0) (by omega) X.R l0 (by omega)
    have Y := RX_ln (RX_s X 0) (kN7_t x0 g2) (kY7_t y0 g3) (by omega) g1
    refine ⟨Y, Or.inl ⟨?_, ?_⟩⟩
    · rw [g1.1, g1.2.1]
    · rw [g3.1 0 (by decide)]; rfl
end BST
