/-! QUERIES that fly. -/
def kYf (y y2 : kY) : Prop := (∀ k, k ≠ 0 → k ≠ 7 → k ≠ 8 → y2.1 k = y.1 k) ∧ ∀ r, r ≠ 4 → y2.2 r = y.2 r
theorem kYf_r {y : kY} : kYf y y := ⟨fun _ _ _ _ => rfl, fun _ _ => rfl⟩
theorem kYf_t {y y2 y3 : kY} (h1 : kYf y y2) (h2 : kYf y2 y3) : kYf y y3 := ⟨fun k a b c => (h2.1 k a b c).trans (h1.1 k a b c), fun r a => (h2.2 r a).trans (h1.2 r a)⟩
theorem kYf_s {y : kY} {z : Int32} : kYf y (yS y 0 z) := ⟨fun k h0 _ _ => by rw [ys_1, pk_un h0], fun _ _ => rfl⟩
theorem zero_shl (j : Nat) : (0 : Int64) <<< (Int32.toInt64 (nI j) &&& 63) = 0 := by
  apply Int64.toBitVec_inj.1
  rw [Int64.toBitVec_shiftLeft]
  exact BitVec.zero_shiftLeft _
section AIR
variable {t hb : Nat} {x x2 : kK} {y y2 : kY}
theorem RX_f (X : RX t x y) (hq : kKq x x2) (hc : x2.1 = x.1) (hy : kYf y y2) : RX t x2 y2 :=
  RX_q X (Nat.le_refl _) hc hq.2.1 (fun k hk => hq.2.2.1 k (by omega)) (by
    unfold kChn kQu
    rw [hq.2.2.1 4 (by decide), hq.2.2.1 3 (by decide), hq.2.2.1 2 (by decide), hq.2.2.1 1 (by decide)]
    exact X.O.2.1) hy.1 (fun r h4 _ => hy.2 r h4)
theorem kYf_fl (R : RJ hb t (x.1 0) (y.2 0)) {p : Nat} (hp : p < 64) : kYf y (g_X12_flies y (nI p)) ∧ (g_X12_flies y (nI p)).1 0 = y.1 0 := by
  have f7 := flies_7 (x := y) (a := nI p)
  have ac := ac_flies (x := y) (a := nI p)
  obtain ⟨-, -, -, v0⟩ := fly_eq R hp
  refine ⟨⟨fun k _ h7 h8 => f7 k h7 h8, fun r h4 => ?_⟩, f7 0 (by decide) (by decide)⟩
  by_cases h0 : r = 0
  · subst h0; exact v0
  · exact ac.2 r h0 h4
/-- one flight on both sides -/
theorem RX_fly (X : RX t x y) {p : Nat} (hp : p < 64) : RX t (g_X4_fly x (nI p)) (g_X12_flies y (nI p)) := RX_f X q_fly fly_ok.2 (kYf_fl X.R hp).1
theorem tr_0 (a : Int32) : g_X12_isThrow y a = yS y 0 (if f_X12_isIn a 0 63 = 0 then 1 else 0) ∧ f_X12_isThrow y a = (if f_X12_isIn a 0 63 = 0 then 0 else 1) := by
  unfold g_X12_isThrow f_X12_isThrow
  split <;> exact ⟨rfl, rfl⟩
theorem q_flightLength (X : RX t x y) {a : Int32} : RX t (g_X11_flightLength x a) (g_X12_flightLength y a) ∧ (okI (o_X11_flightLength x a) (g_X12_flightLength y a) (f_X12_flightLength y a) ∨ exE (o_X11_flightLength x a) (g_X12_flightLength y a) "java/lang/IllegalArgumentException" 1) := by
  unfold g_X11_flightLength g_X12_flightLength o_X11_flightLength f_X12_flightLength
  rw [(tr_0 a).1, (tr_0 a).2]
  rcases th_cs a with ⟨e1, e2⟩ | ⟨e1, e2, p, hp, rfl⟩
  · rw [if_pos e1, if_pos e1, e2, if_pos rfl, if_pos rfl, if_pos rfl, if_pos rfl]
    exact ⟨RX_s X 1, Or.inr ⟨rfl, rfl⟩⟩
  · rw [e1, e2, if_neg z10, if_neg z10, if_neg z10, if_neg z10, if_neg z10, if_neg z10]
    have X2 := RX_s X 0
    obtain ⟨F, fe, -, -⟩ := fly_eq X2.R hp
    have f1 := (F.n (by omega)).1
    rw [fe, f1]
    exact ⟨RX_fly X2 hp, Or.inl ⟨rfl, (kYf_fl X2.R hp).2⟩⟩
theorem q_flightCell (X : RX t x y) {a b : Int32} : RX t (g_X11_flightCell x a b) (g_X12_flightCell y a b) ∧ (okI (o_X11_flightCell x a b) (g_X12_flightCell y a b) (f_X12_flightCell y a b) ∨ exE (o_X11_flightCell x a b) (g_X12_flightCell y a b) "java/lang/IllegalArgumentException" 1 ∨ exE (o_X11_flightCell x a b) (g_X12_flightCell y a b) "java/util/NoSuchElementException" 2) := by
  unfold g_X11_flightCell g_X12_flightCell o_X11_flightCell f_X12_flightCell
  rw [(tr_0 a).1, (tr_0 a).2]
  rcases th_cs a with ⟨e1, e2⟩ | ⟨e1, e2, p, hp, rfl⟩
  · rw [if_pos e1, if_pos e1, e2, if_pos rfl, if_pos rfl, if_pos rfl, if_pos rfl]
    exact ⟨RX_s X 1, Or.inr (Or.inl ⟨rfl, rfl⟩)⟩
  · rw [e1, e2, if_neg z10, if_neg z10, if_neg z10, if_neg z10, if_neg z10, if_neg z10]
    have X2 := RX_s X 0
    obtain ⟨F, fe, -, -⟩ := fly_eq X2.R hp
    obtain ⟨f1, f2, f3, f4, f5⟩ := F.n (by omega)
    have Y := RX_fly X2 hp
    have k0 := (kYf_fl X2.R hp).2
    rw [fe, f1, f4]
    generalize ((g_X12_flies (yS y 0 0) (nI p)).1 7).toNatClampNeg = n at *
    have ip : f_X12_isIn b 0 (nI n) = f_X12_isIn b 0 (nI (n + 1) - 1) := by rw [nI_pred]
    rw [ip]
    rcases in_cs b (n := n + 1) (by omega) with ⟨i1, i2⟩ | ⟨i1, j, hj, rfl⟩
    · rw [i1, if_pos rfl, if_pos rfl, ite_self, ite_self]
      have eo : (if b < 0 then (.inr "java/util/NoSuchElementException" : kOut) else (if b ≤ nI n then (.inl (some (.int (((g_X4_fly x (nI p)).2.2.1 0) (Int32.toNatClampNeg b))))) else (.inr "java/util/NoSuchElementException"))) = .inr "java/util/NoSuchElementException" := by
        rcases i2 with z | z
        · rw [if_pos z]
        · rw [if_neg (show ¬ b ≤ nI n by
            intro w
            have w1 := Int32.le_iff_toInt_le.1 w
            have z1 := Int32.le_iff_toInt_le.1 z
            rw [nI_toInt (by omega)] at w1 z1
            omega), ite_self]
      exact ⟨RX_s Y 2, Or.inr (Or.inr ⟨eo, rfl⟩)⟩
    · rw [i1, if_neg z10, if_neg z10, if_neg (nI_pos (by omega)), if_neg (nI_pos (by omega)), if_pos (nI_le (by omega) (by omega)), if_pos (nI_le (by omega) (by omega)), nI_clamp (by omega), (f5 j (by omega)).1]
      exact ⟨Y, Or.inl ⟨rfl, k0⟩⟩
theorem eb_u {z : kY} : (Int32.toUInt32 (f_X12_endsBy z) % 65536).toInt32 = f_X12_endsBy z := by
  unfold f_X12_endsBy
  split
  · split <;> decide
  · decide
theorem q_flightEnd (X : RX t x y) {a : Int32} : RX t (g_X11_flightEnd x a) (g_X12_flightEnd y a) ∧ (okI (o_X11_flightEnd x a) (g_X12_flightEnd y a) (f_X12_flightEnd y a) ∨ exE (o_X11_flightEnd x a) (g_X12_flightEnd y a) "java/lang/IllegalArgumentException" 1) := by
  unfold g_X11_flightEnd g_X12_flightEnd o_X11_flightEnd f_X12_flightEnd
  rw [(tr_0 a).1, (tr_0 a).2, eb_u]
  rcases th_cs a with ⟨e1, e2⟩ | ⟨e1, e2, p, hp, rfl⟩
  · rw [if_pos e1, if_pos e1, e2, if_pos rfl, if_pos rfl, if_pos rfl, if_pos rfl]
    exact ⟨RX_s X 1, Or.inr ⟨rfl, rfl⟩⟩
  · rw [e1, e2, if_neg z10, if_neg z10, if_neg z10, if_neg z10, if_neg z10, if_neg z10]
    have X2 := RX_s X 0
    obtain ⟨-, -, en, -⟩ := fly_eq X2.R hp
    rw [en]
    exact ⟨RX_fly X2 hp, Or.inl ⟨rfl, (kYf_fl X2.R hp).2⟩⟩
theorem q_flightBits (X : RX t x y) {a : Int32} : RX t (g_X11_flightBits x a) (g_X12_flightBits y a) ∧ (okL (o_X11_flightBits x a) (g_X12_flightBits y a) (f_X12_flightBits y a) ∨ exE (o_X11_flightBits x a) (g_X12_flightBits y a) "java/lang/IllegalArgumentException" 1) := by
  unfold g_X11_flightBits g_X12_flightBits o_X11_flightBits f_X12_flightBits
  rw [(tr_0 a).1, (tr_0 a).2]
  rcases th_cs a with ⟨e1, e2⟩ | ⟨e1, e2, p, hp, rfl⟩
  · rw [if_pos e1, if_pos e1, e2, if_pos rfl, if_pos rfl, if_pos rfl, if_pos rfl]
    exact ⟨RX_s X 1, Or.inr ⟨rfl, rfl⟩⟩
  · rw [e1, e2, if_neg z10, if_neg z10, if_neg z10, if_neg z10, if_neg z10, if_neg z10]
    have X2 := RX_s X 0
    obtain ⟨F, fe, -, -⟩ := fly_eq X2.R hp
    obtain ⟨f1, f2, f3, f4, f5⟩ := F.n (by omega)
    have e := ec_fb (y := g_X12_flies (yS y 0 0) (nI p)) (f := (g_X4_fly x (nI p)).2.2.1 0) (n := ((g_X12_flies (yS y 0 0) (nI p)).1 7).toNatClampNeg) (k := ((g_X12_flies (yS y 0 0) (nI p)).1 7).toNatClampNeg) (by omega) (fun i hi => (f5 i hi).1) (j := 1) (s := 0) (by omega)
    rw [fe, f2, e]
    exact ⟨RX_fly X2 hp, Or.inl ⟨rfl, (kYf_fl X2.R hp).2⟩⟩
/-! which throws serve -/
theorem se_1 {a : Int32} {k j : Nat} {s : Int64} {z : kY} (h : z.1 0 ≠ 0) : seL a k z j s = (z, s) := by
  cases k with
  | zero => rfl
  | succ k => rw [seL, if_neg h]
theorem st_se {q : Nat} {c : Int32} {k : Nat} : ∀ {x : kK} {y : kY} {j : Nat} {s : Int64}, j + k = 64 → RX t x y → y.1 0 = 0 → q < nP (y.2 0) → (x.1 0).2.2 0 q = c → RX t (stL c k x j s).1 (seL (nI q) k y j s).1 ∧ (stL c k x j s).2 = (seL (nI q) k y j s).2 ∧ (seL (nI q) k y j s).1.1 0 = 0 := by
  induction k with
  | zero => intro x y j s _ X h0 _ _; exact ⟨X, rfl, h0⟩
  | succ k ih =>
    intro x y j s hj X h0 hq hc
    have hj6 : j < 64 := by omega
    have sv := sv_eq X.R hj6 hq
    rw [hc] at sv
    have Y := RX_fly X hj6
    have k0 := (kYf_fl X.R hj6).2
    have v0 := (kYf_fl X.R hj6).1.2 0 (by decide)
    have go : ∀ s2, RX t (stL c k (g_X4_fly x (nI j)) (j + 1) s2).1 (seL (nI q) k (g_X12_flies y (nI j)) (j + 1) s2).1 ∧ (stL c k (g_X4_fly x (nI j)) (j + 1) s2).2 = (seL (nI q) k (g_X12_flies y (nI j)) (j + 1) s2).2 ∧ (seL (nI q) k (g_X12_flies y (nI j)) (j + 1) s2).1.1 0 = 0 := fun s2 => ih (by omega) Y (k0.trans h0) (by rw [v0]; exact hq) (by rw [fly_ok.2]; exact hc)
    rw [stL, seL, if_pos h0, serves_g]
    rcases sv with ⟨s1, s2⟩ | ⟨i, i1, i2, s1, s2⟩
    · rw [s1, s2, if_pos rfl, if_pos (show (0 : Int32) ≤ 0 by decide), show s ||| 0 = s from Int64.or_zero]
      exact go s
    · have ni : ¬ nI i ≤ 0 := nI_nle (by omega) (by omega)
      have im : ¬ nI i = (-1 : Int32) := by
        intro z
        have z2 : nI i < 0 := by rw [z]; decide
        exact nI_pos (by omega) z2
      rw [s1, s2, if_neg im, if_neg ni]
      exact go _
theorem ec_tb {f : Nat → Int32} {k : Nat} : ∀ {j : Nat} {s : Int64}, (∀ i, j ≤ i → i < j + k → isN (f i) 64) → ∀ q, q < 64 → (tb (ecL f k j s) q = true ↔ (tb s q = true ∨ ∃ i, j ≤ i ∧ i < j + k ∧ f i = nI q)) := by
  induction k with
  | zero =>
    intro j s _ q _
    rw [ecL]
    exact ⟨Or.inl, fun h => h.elim id (fun ⟨i, a, b, _⟩ => by omega)⟩
  | succ k ih =>
    intro j s hf q hq
    obtain ⟨n, hn, e⟩ := hf j (Nat.le_refl _) (by omega)
    rw [ecL, ih (fun i a b => hf i (by omega) (by omega)) q hq, tb_or, e]
    have e2 : tb ((1 : Int64) <<< (Int32.toInt64 (nI n) &&& 63)) q = decide (q = n) := tb_N hn hq
    rw [e2, Bool.or_eq_true, decide_eq_true_iff]
    constructor
    · rintro ((h | h) | ⟨i, a, b, h⟩)
      · exact Or.inl h
      · exact Or.inr ⟨j, Nat.le_refl _, by omega, by rw [e, h]⟩
      · exact Or.inr ⟨i, by omega, by omega, h⟩
    · rintro (h | ⟨i, a, b, h⟩)
      · exact Or.inl (Or.inl h)
      · by_cases z : i = j
        · subst z
          rw [e] at h
          exact Or.inl (Or.inr ((nI_eq (by omega) (by omega)).1 h).symm)
        · exact Or.inr ⟨i, by omega, by omega, h⟩
theorem sb_st {q : Nat} {c : Int32} {k : Nat} : ∀ {x : kK} {y : kY} {j : Nat} {s : Int64}, j + k = 64 → RX t x y → q < nP (y.2 0) → (x.1 0).2.2 0 q = c → sbL c k x j s = stL c k x j s := by
  induction k with
  | zero => intro x y j s _ _ _ _; rfl
  | succ k ih =>
    intro x y j s hj X hq hc
    have hj6 : j < 64 := by omega
    have Y := RX_fly X hj6
    have v0 := (kYf_fl X.R hj6).1.2 0 (by decide)
    have go : ∀ s2, sbL c k (g_X4_fly x (nI j)) (j + 1) s2 = stL c k (g_X4_fly x (nI j)) (j + 1) s2 := fun s2 => ih (by omega) Y (by rw [v0]; exact hq) (by rw [fly_ok.2]; exact hc)
    have n8 := X.R.nP8
    obtain ⟨F, -, -, -⟩ := fly_eq X.R hj6
    obtain ⟨f1, f2, f3, f4, f5⟩ := F.n (by omega)
    obtain ⟨cc, hcc, ec⟩ := X.R.Q q (by omega)
    rw [← (X.R.P.1 q hq).1, hc] at ec
    rw [sbL, stL]
    unfold f_X11_flightBits_ok g_X11_flightBits_ok
    rw [go, ec, f2]
    have bit : ∀ U : Int64, ((Int64.toUInt64 U >>> (Int64.toUInt64 (Int32.toInt64 (nI cc)) &&& Int64.toUInt64 63)).toInt64 &&& 1) = if tb U cc = true then 1 else 0 := by
      intro U
      apply tb_ext
      intro r hr
      rw [tb_and, tb_shr rfl hcc, tb_1 hr]
      by_cases z : r = 0
      · subst z
        rw [decide_eq_true rfl, Bool.and_true, Nat.zero_add]
        cases tb U cc
        · rw [if_neg (by decide), tb_0]
        · rw [if_pos rfl, tb_1 (by omega)]; rfl
      · rw [decide_eq_false z, Bool.and_false]
        split
        · rw [tb_1 hr, decide_eq_false z]
        · rw [tb_0]
    rw [bit]
    generalize ((g_X12_flies y (nI j)).1 7).toNatClampNeg = n at *
    have iff1 := ec_tb (f := (g_X4_fly x (nI j)).2.2.1 0) (k := n) (j := 1) (s := 0) (fun i a b => by rw [(f5 i (by omega)).1]; exact (f5 i (by omega)).2) cc hcc
    rcases pF_s (f := (g_X4_fly x (nI j)).2.2.1 0) (c := nI cc) (k := n) (j := 1) with ⟨e, no⟩ | ⟨i, i1, i2, i3, e, -⟩
    · have nb : ¬ tb (ecL ((g_X4_fly x (nI j)).2.2.1 0) n 1 0) cc = true := by
        intro z
        rcases iff1.1 z with h | ⟨i, a, b, h⟩
        · rw [tb_0] at h; cases h
        · exact no i a b h
      have z0 : s ||| ((0 : Int64) <<< (Int32.toInt64 (nI j) &&& 63)) = s := by rw [zero_shl]; exact Int64.or_zero
      rw [e, if_pos rfl, if_neg nb, z0]
    · have im : ¬ nI i = (-1 : Int32) := by
        intro z
        have z2 : nI i < 0 := by rw [z]; decide
        exact nI_pos (by omega) z2
      rw [e, if_neg im, if_pos (iff1.2 (Or.inr ⟨i, i1, i2, i3⟩))]
theorem q_servingThrows (X : RX t x y) {a : Int32} : RX t (g_X11_servingThrows x a) (g_X12_servingThrows y a) ∧ (okL (o_X11_servingThrows x a) (g_X12_servingThrows y a) (f_X12_servingThrows y a) ∨ exE (o_X11_servingThrows x a) (g_X12_servingThrows y a) "java/lang/IndexOutOfBoundsException" 1) := by
  have n8 := X.R.nP8
  unfold g_X11_servingThrows g_X12_servingThrows o_X11_servingThrows f_X12_servingThrows
  rcases pty_cs X.R a with ⟨e1, e2⟩ | ⟨e1, e2, q, hq, rfl⟩
  · rw [if_pos e1, if_pos e1, if_pos e2, se_1 (show (yS y 0 1).1 0 ≠ 0 from z10)]
    exact ⟨RX_s X 1, Or.inr ⟨rfl, rfl⟩⟩
  · rw [e1, e2, if_neg z10, if_neg z10, if_neg z10, if_neg z10, nI_clamp (by omega)]
    obtain ⟨h1, h2, h3⟩ := st_se (t := t) (q := q) (c := (x.1 0).2.2 0 q) (k := 64) (j := 0) (s := 0) (by omega) (RX_s X 0) rfl hq rfl
    rw [h2]
    exact ⟨h1, Or.inl ⟨rfl, h3⟩⟩
theorem q_servingThrowsBySets (X : RX t x y) {a : Int32} : RX t (g_X11_servingThrowsBySets x a) (g_X12_servingThrowsBySets y a) ∧ (okL (o_X11_servingThrowsBySets x a) (g_X12_servingThrowsBySets y a) (f_X12_servingThrowsBySets y a) ∨ exE (o_X11_servingThrowsBySets x a) (g_X12_servingThrowsBySets y a) "java/lang/IndexOutOfBoundsException" 1) := by
  have n8 := X.R.nP8
  have qs := q_servingThrows X (a := a)
  have e : g_X11_servingThrowsBySets x a = g_X11_servingThrows x a ∧ o_X11_servingThrowsBySets x a = o_X11_servingThrows x a := by
    unfold g_X11_servingThrowsBySets g_X11_servingThrows o_X11_servingThrowsBySets o_X11_servingThrows
    rcases pty_cs X.R a with ⟨e1, e2⟩ | ⟨e1, e2, q, hq, rfl⟩
    · rw [if_pos e1, if_pos e1, if_pos e1, if_pos e1]; exact ⟨rfl, rfl⟩
    · rw [nI_clamp (by omega), sb_st (t := t) (q := q) (k := 64) (j := 0) (by omega) X hq rfl]; exact ⟨rfl, rfl⟩
  unfold g_X12_servingThrowsBySets f_X12_servingThrowsBySets
  rw [e.1, e.2]
  exact qs
end AIR
