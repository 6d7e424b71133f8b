/-! MOST HEARINGS BY CHAINS. -/
/-- f says what the rows of pleas and hours say; hour u waits for its plea -/
def mR (H u : Nat) (f : Nat → Option Nat) (x : kK) : Prop := (∀ p, p < 8 → (f p = none ∧ x.2.2.1 2 p = -1) ∨ ∃ t, t < 33 ∧ f p = some (H + t) ∧ x.2.2.1 2 p = nI t) ∧ ∀ t, t < 33 → t ≠ u → (x.2.2.1 3 t = -1 ∧ ∀ p, f p ≠ some (H + t)) ∨ ∃ p, p < 8 ∧ x.2.2.1 3 t = nI p ∧ f p = some (H + t)
/-- hours that are all taken, by pleas that have no other hours -/
def mD (A : Nat → Nat → Prop) (H j : Nat) (f : Nat → Option Nat) (T : Nat → Prop) : Prop := (∀ p t, p < j → f p = none → H ≤ t → t < H + 33 → A p t → T t) ∧ (∀ p t u, f p = some u → T u → H ≤ t → t < H + 33 → A p t → T t) ∧ ∀ t, T t → ∃ p, f p = some t
theorem mR_up {H u w p : Nat} {f : Nat → Option Nat} {x : kK} (hR : mR H u f x) (hu : u < 33) (hp : p < 8) (no : ∀ q, f q ≠ some (H + u)) (ex : ∀ t, t < 33 → t ≠ w → f p ≠ some (H + t)) : mR H w (upF f p (some (H + u))) (kkR (kkR x 3 (upd (x.2.2.1 3) u (nI p))) 2 (upd (x.2.2.1 2) p (nI u))) := by
  refine ⟨fun q hq => ?_, fun t ht htw => ?_⟩
  · show (_ ∧ upd (x.2.2.1 2) p (nI u) q = -1) ∨ ∃ t, t < 33 ∧ _ ∧ upd (x.2.2.1 2) p (nI u) q = nI t
    by_cases e : q = p
    · subst e
      rw [upF_s, pk_us]
      exact Or.inr ⟨u, hu, rfl, rfl⟩
    · rw [upF_n e, pk_un e]
      exact hR.1 q hq
  · show (upd (x.2.2.1 3) u (nI p) t = -1 ∧ _) ∨ ∃ q, q < 8 ∧ upd (x.2.2.1 3) u (nI p) t = nI q ∧ _
    by_cases e : t = u
    · subst e
      rw [pk_us]
      exact Or.inr ⟨p, hp, rfl, upF_s⟩
    · rw [pk_un e]
      rcases hR.2 t ht e with ⟨a, b⟩ | ⟨q, a, b, c⟩
      · refine Or.inl ⟨a, fun q z => ?_⟩
        by_cases e2 : q = p
        · rw [e2, upF_s] at z
          have := Option.some.inj z
          omega
        · rw [upF_n e2] at z
          exact b q z
      · refine Or.inr ⟨q, a, b, ?_⟩
        rw [upF_n (fun z => ex t ht htw (by rw [← z]; exact c))]
        exact c
theorem ghL_m {k : Nat} {x : kK} {j : Nat} : ghL k x j (-1) = x := by
  cases k with
  | zero => rfl
  | succ k => rw [ghL, if_pos rfl]
theorem ghL_pl {k : Nat} : ∀ {x : kK} {j : Nat} {u : Int32}, kPl x (ghL k x j u) := by
  induction k with
  | zero => intro x j u; exact kPl_r
  | succ k ih =>
    intro x j u
    rw [ghL]
    split
    · exact kPl_r
    · split
      · exact kPl_r
      · exact kPl_t (kPl_k ⟨by decide, by decide⟩) (kPl_t (kPl_k ⟨by decide, by decide⟩) ih)
/-- along the chain each plea gets its next hour; the last, that had none, gets one -/
theorem ghL_s {A : Nat → Nat → Prop} {H : Nat} {S T : Nat → Prop} {qs : Nat → Nat} {a j0 : Nat} (h0 : qs 0 = a) {k : Nat} : ∀ {f : Nat → Option Nat} {x : kK} {i u r : Nat}, r < k → u < 33 → mR H u f x → vF A H 33 S f → mD A H j0 f T → (∀ p, f p ≠ some (H + u)) → ¬ T (H + u) →
    (∀ q, q ≤ r → qs q < 8 ∧ S (qs q)) → (∀ q n, q < n → n ≤ r → qs q ≠ qs n) → x.2.2.1 4 u = nI (qs r) → A (qs r) (H + u) → f a = none → (∀ q, 0 < q → q ≤ r → ∃ t, t < 33 ∧ f (qs q) = some (H + t) ∧ ∃ n, n < q ∧ x.2.2.1 4 t = nI (qs n) ∧ A (qs n) (H + t)) →
    ∃ g, mR H 33 g (ghL k x i (nI u)) ∧ vF A H 33 S g ∧ szF g 8 = szF f 8 + 1 ∧ mD A H (j0) g T ∧ ∀ p, g p = none → f p = none ∧ p ≠ a := by
  induction k with
  | zero => intro f x i u r hr; omega
  | succ k ih =>
    intro f x i u r hr hu hR hv hD no nT q1 q2 e4 hA hn q3
    have p8 := (q1 r (Nat.le_refl r)).1
    have pS := (q1 r (Nat.le_refl r)).2
    rw [ghL, if_neg (nI_m1 (by omega)), nI_clamp (show u < 2 ^ 31 by omega), e4, if_neg (nI_m1 (by omega)), nI_clamp (show qs r < 2 ^ 31 by omega)]
    -- f behind this step
    have gv : vF A H 33 S (upF f (qs r) (some (H + u))) := by
      refine ⟨fun p t z => ?_, fun p q t z1 z2 => ?_⟩
      · by_cases e : p = qs r
        · rw [e, upF_s] at z
          have := Option.some.inj z
          subst this
          rw [e]
          exact ⟨p8, pS, by omega, by omega, hA⟩
        · rw [upF_n e] at z
          exact hv.1 p t z
      · by_cases e : p = qs r
        · by_cases e2 : q = qs r
          · rw [e, e2]
          · rw [e, upF_s] at z1
            rw [upF_n e2] at z2
            rw [← z1] at z2
            exact absurd z2 (no q)
        · by_cases e2 : q = qs r
          · rw [e2, upF_s] at z2
            rw [upF_n e] at z1
            rw [← z2] at z1
            exact absurd z1 (no p)
          · rw [upF_n e] at z1
            rw [upF_n e2] at z2
            exact hv.2 p q t z1 z2
    have pT : ∀ t, f (qs r) = some t → ¬ T t := fun t z z2 => nT (hD.2.1 (qs r) (H + u) t z z2 (by omega) (by omega) hA)
    have gD : mD A H j0 (upF f (qs r) (some (H + u))) T := by
      refine ⟨fun p t h1 z h2 h3 h4 => ?_, fun p t w z h1 h2 h3 h4 => ?_, fun t z => ?_⟩
      · by_cases e : p = qs r
        · rw [e, upF_s] at z; cases z
        · rw [upF_n e] at z
          exact hD.1 p t h1 z h2 h3 h4
      · by_cases e : p = qs r
        · rw [e, upF_s] at z
          have := Option.some.inj z
          subst this
          exact absurd h1 nT
        · rw [upF_n e] at z
          exact hD.2.1 p t w z h1 h2 h3 h4
      · obtain ⟨p, hp⟩ := hD.2.2 t z
        refine ⟨p, ?_⟩
        rw [upF_n (fun e => pT t (by rw [← e]; exact hp) z)]
        exact hp
    have sz := szF_n (f := f) p8
    by_cases r0 : r = 0
    · -- the chain's end
      have er : qs r = a := by rw [r0]; exact h0
      have fn : f (qs r) = none := by rw [er]; exact hn
      have hp := hR.1 (qs r) p8
      have e2 : x.2.2.1 2 (qs r) = -1 := by
        rcases hp with ⟨-, b⟩ | ⟨t, -, b, -⟩
        · exact b
        · rw [fn] at b; cases b
      rw [e2, ghL_m]
      refine ⟨upF f (qs r) (some (H + u)), mR_up hR hu p8 no (fun t _ _ z => by rw [fn] at z; cases z), gv, ?_, gD, fun p z => ?_⟩
      · rw [szF_s p8]
        rw [fn] at sz
        have z : szF (upF f (qs r) none) 8 + 0 = szF f 8 := sz
        omega
      · by_cases e : p = qs r
        · rw [e, upF_s] at z; cases z
        · rw [upF_n e] at z
          exact ⟨z, fun w => e (w.trans er.symm)⟩
    · obtain ⟨t, ht, ft, n, hn2, e5, hA2⟩ := q3 r (by omega) (Nat.le_refl r)
      have tu : t ≠ u := fun z => no (qs r) (z ▸ ft)
      have e2 : x.2.2.1 2 (qs r) = nI t := by
        rcases hR.1 (qs r) p8 with ⟨b, -⟩ | ⟨w, -, b, c⟩
        · rw [ft] at b; cases b
        · rw [ft] at b
          have := Option.some.inj b
          have z : w = t := by omega
          rw [← z]; exact c
      have na : a ≠ qs r := by
        rw [← h0]
        exact q2 0 r (by omega) (Nat.le_refl r)
      rw [e2]
      obtain ⟨g, g1, g2, g3, g4, g5⟩ := ih (f := upF f (qs r) (some (H + u))) (x := kkR (kkR x 3 (upd (x.2.2.1 3) u (nI (qs r)))) 2 (upd (x.2.2.1 2) (qs r) (nI u))) (i := i + 1) (u := t) (r := n) (by omega) ht (mR_up hR hu p8 no (fun w hw h2 z => by rw [ft] at z; have := Option.some.inj z; omega)) gv gD (fun p z => by
          by_cases e : p = qs r
          · rw [e, upF_s] at z
            have := Option.some.inj z
            omega
          · rw [upF_n e] at z
            exact e (hv.2 p (qs r) _ z ft)) (pT _ ft) (fun q hq => q1 q (by omega)) (fun q m h1 h2 => q2 q m h1 (by omega)) e5 hA2 (by rw [upF_n na]; exact hn) (fun q h1 h2 => by
          obtain ⟨t2, b1, b2, b3⟩ := q3 q h1 (by omega)
          exact ⟨t2, b1, by rw [upF_n (q2 q r (by omega) (Nat.le_refl r))]; exact b2, b3⟩)
      refine ⟨g, g1, g2, ?_, g4, fun p z => ?_⟩
      · rw [g3, szF_s p8]
        rw [ft] at sz
        have z : szF (upF f (qs r) none) 8 + 1 = szF f 8 := sz
        omega
      · have h := g5 p z
        by_cases e : p = qs r
        · rw [e, upF_s] at h; cases h.1
        · rw [upF_n e] at h
          exact h
/-- the search: w pleas wait in the queue, those before i have shown all their hours, plea i its hours before j -/
def mB (A : Nat → Nat → Prop) (H : Nat) (f : Nat → Option Nat) (a i j w : Nat) (qs : Nat → Nat) (x : kK) : Prop := w ≤ 8 ∧ 0 < w ∧ qs 0 = a ∧ (∀ q, q < w → x.2.2.1 1 q = nI (qs q) ∧ qs q < 8) ∧ (∀ q, 0 < q → q < w → ∃ t, t < 33 ∧ f (qs q) = some (H + t) ∧ ∃ n, n < q ∧ x.2.2.1 4 t = nI (qs n) ∧ A (qs n) (H + t)) ∧ (∀ q n, q < n → n < w → qs q ≠ qs n) ∧ (∀ t, t < 33 → x.2.2.1 4 t = -1 ∨ ∃ q, q < w ∧ f (qs q) = some (H + t)) ∧ (∀ q t, q < w → t < 33 → (q < i ∨ q = i ∧ t < j) → A (qs q) (H + t) → x.2.2.1 4 t ≠ -1) ∧ mR H 33 f x
/-- nine pleas are too many -/
theorem pg9 {qs : Nat → Nat} {p : Nat} (hp : p < 8) (h1 : ∀ q, q < 8 → qs q < 8) (h2 : ∀ q n, q < n → n < 8 → qs q ≠ qs n) (h3 : ∀ q, q < 8 → qs q ≠ p) : False := by
  have h : szF (fun _ => some 0) 9 ≤ szF (fun _ => some 0) 8 := by
    refine szF_le (fun q => if q < 8 then qs q else p) (fun q hq _ => ⟨?_, rfl⟩) (fun q n hq hn _ _ e => ?_)
    · show (if q < 8 then qs q else p) < 8
      split
      · exact h1 q (by omega)
      · exact hp
    · have e2 : (if q < 8 then qs q else p) = (if n < 8 then qs n else p) := e
      by_cases c : q < 8
      · by_cases d : n < 8
        · rw [if_pos c, if_pos d] at e2
          rcases Nat.lt_trichotomy q n with z | z | z
          · exact absurd e2 (h2 q n z d)
          · exact z
          · exact absurd e2.symm (h2 n q z c)
        · rw [if_pos c, if_neg d] at e2
          exact absurd e2 (h3 q c)
      · by_cases d : n < 8
        · rw [if_neg c, if_pos d] at e2
          exact absurd e2.symm (h3 n d)
        · omega
  exact absurd h (by decide)
section FH
variable {t hb : Nat} {y : kY} {c : kCo}
/-- one plea of the queue -/
theorem fhI_s (R : RJ hb t c (y.2 0)) (hh : hb < 2 ^ 27) {H : Nat} (hH : H < 2 ^ 28) (e4 : c.2.1 4 = nI H) {f : Nat → Option Nat} {S : Nat → Prop} (hv : vF (hA (y.2 0)) H 33 S f) {a i : Nat} (ha : a < nL (y.2 0)) (hn : f a = none) {k : Nat} : ∀ {x : kK} {j w : Nat} {qs : Nat → Nat}, j + k = 33 → i < w → x.1 0 = c → mB (hA (y.2 0)) H f a i j w qs x →
    Sum.elim (fun z : kK × Int32 => z.2 = 1 ∧ ∃ x2 : kK, kPl x x2 ∧ ∃ (u : Nat) (qs : Nat → Nat) (w : Nat), u < 33 ∧ i < w ∧ z.1 = ghL 8 x2 0 (nI u) ∧ qs 0 = a ∧ w ≤ 8 ∧ mR H 33 f x2 ∧ (∀ p, f p ≠ some (H + u)) ∧ (∀ q, q < w → qs q < 8) ∧ (∀ q n, q < n → n < w → qs q ≠ qs n) ∧ x2.2.2.1 4 u = nI (qs i) ∧ hA (y.2 0) (qs i) (H + u) ∧ ∀ q, 0 < q → q < w → ∃ t, t < 33 ∧ f (qs q) = some (H + t) ∧ ∃ n, n < q ∧ x2.2.2.1 4 t = nI (qs n) ∧ hA (y.2 0) (qs n) (H + t)) (fun z => kPl x z.1 ∧ ∃ (w : Nat) (qs : Nat → Nat), z.2 = nI w ∧ i < w ∧ mB (hA (y.2 0)) H f a i 33 w qs z.1) (fhI i k x j (nI w)) := by
  induction k with
  | zero =>
    intro x j w qs hj hi hx hB
    have : j = 33 := by omega
    subst this
    exact ⟨kPl_r, w, qs, rfl, hi, hB⟩
  | succ k ih =>
    intro x j w qs hj hi hx hB
    obtain ⟨w8, w0, q0, q1, q2, q3, q4, q5, hR⟩ := hB
    have qi := q1 i hi
    have ql : qs i < nL (y.2 0) := by
      by_cases z : i = 0
      · rw [z, q0]; exact ha
      · obtain ⟨t, -, ft, -⟩ := q2 i (by omega) hi
        exact (hv.1 _ _ ft).2.2.2.2.1
    have m8 := R.nL8
    have Rx : RJ hb t (x.1 0) (y.2 0) := by rw [hx]; exact R
    have cb := cbh (y := y) Rx (by omega) ql (h := H + j) (by omega)
    rw [fhI, nI_clamp (show j < 2 ^ 31 by omega), nI_clamp (show i < 2 ^ 31 by omega), qi.1, hx, e4, nI_add]
    by_cases c1 : x.2.2.1 4 j = -1
    · rw [if_pos c1]
      rcases cb with ⟨e1, noA⟩ | ⟨e1, yesA⟩
      · rw [e1, if_pos rfl]
        refine ih (j := j + 1) (by omega) hi hx ⟨w8, w0, q0, q1, q2, q3, q4, fun q u h1 h2 h3 h4 => ?_, hR⟩
        by_cases z : q = i ∧ u = j
        · rw [z.1, z.2] at h4
          exact absurd h4 noA
        · exact q5 q u h1 h2 (by omega) h4
      · rw [e1, if_neg z10]
        have r4 : ∀ f : Nat → Int32, (kkR x 4 f).2.2.1 4 = f := fun _ => rfl
        -- hours that were found before
        have old : ∀ u v : Nat, x.2.2.1 4 u = nI v → v < 8 → u ≠ j := by
          intro u v e hv e2
          rw [e2, c1] at e
          exact nI_m1 (by omega) e.symm
        rcases hR.2 j (by omega) (by omega) with ⟨b1, b2⟩ | ⟨p, p8, b1, b2⟩
        · rw [if_pos b1]
          refine ⟨rfl, kkR x 4 (upd (x.2.2.1 4) j (nI (qs i))), kPl_k ⟨by decide, by decide⟩, j, qs, w, by omega, hi, rfl, q0, w8, hR, b2, fun q hq => (q1 q hq).2, q3, ?_, yesA, fun q h1 h2 => ?_⟩
          · rw [r4, pk_us]
          · obtain ⟨u, h3, h4, n, h5, h6, h7⟩ := q2 q h1 h2
            refine ⟨u, h3, h4, n, h5, ?_, h7⟩
            rw [r4, pk_un (old u (qs n) h6 (q1 n (by omega)).2)]
            exact h6
        · have pn : ∀ q, q < w → qs q ≠ p := by
            intro q hq z
            by_cases z0 : q = 0
            · rw [z0, q0] at z
              rw [← z, hn] at b2
              cases b2
            · obtain ⟨u, h3, h4, n, h5, h6, -⟩ := q2 q (by omega) hq
              rw [z, b2] at h4
              have := Option.some.inj h4
              exact old u (qs n) h6 (q1 n (by omega)).2 (by omega)
          rw [b1, if_neg (nI_m1 (show p < 2 ^ 31 by omega))]
          by_cases c2 : 8 ≤ w
          · have : w = 8 := by omega
            subst this
            exact (pg9 p8 (fun q hq => (q1 q hq).2) q3 pn).elim
          · rw [if_neg (show ¬ 8 ≤ nI w from nI_ge (a := w) (b := 8) (by omega) (by decide)), nI_clamp (show w < 2 ^ 31 by omega), show nI w + Int32.ofInt 1 = nI (w + 1) from nI_1 w]
            have s1 : ∀ f g : Nat → Int32, (kkR (kkR x 4 f) 1 g).2.2.1 1 = g := fun _ _ => rfl
            have s4 : ∀ f g : Nat → Int32, (kkR (kkR x 4 f) 1 g).2.2.1 4 = f := fun _ _ => rfl
            have Q : ∀ q, q < w → (if q = w then p else qs q) = qs q := fun q hq => if_neg (by omega)
            have Qw : (if w = w then p else qs w) = p := if_pos rfl
            have hB2 : mB (hA (y.2 0)) H f a i (j + 1) (w + 1) (fun q => if q = w then p else qs q) (kkR (kkR x 4 (upd (x.2.2.1 4) j (nI (qs i)))) 1 (upd (x.2.2.1 1) w (nI p))) := by
              refine ⟨by omega, by omega, (Q 0 w0).trans q0, fun q hq => ?_, fun q h1 h2 => ?_, fun q n h1 h2 => ?_, fun u hu => ?_, fun q u h1 h2 h3 h4 => ?_, hR⟩
              · show upd (x.2.2.1 1) w (nI p) q = nI (if q = w then p else qs q) ∧ (if q = w then p else qs q) < 8
                by_cases z : q = w
                · rw [z, Qw, pk_us]
                  exact ⟨rfl, p8⟩
                · rw [Q q (by omega), pk_un z]
                  exact q1 q (by omega)
              · show ∃ u, u < 33 ∧ f (if q = w then p else qs q) = some (H + u) ∧ ∃ n, n < q ∧ upd (x.2.2.1 4) j (nI (qs i)) u = nI (if n = w then p else qs n) ∧ hA (y.2 0) (if n = w then p else qs n) (H + u)
                by_cases z : q = w
                · rw [z, Qw]
                  exact ⟨j, by omega, b2, i, by omega, by rw [pk_us, Q i hi], by rw [Q i hi]; exact yesA⟩
                · rw [Q q (by omega)]
                  obtain ⟨u, h3, h4, n, h5, h6, h7⟩ := q2 q h1 (by omega)
                  refine ⟨u, h3, h4, n, h5, ?_, ?_⟩
                  · rw [pk_un (old u (qs n) h6 (q1 n (by omega)).2), Q n (by omega)]
                    exact h6
                  · rw [Q n (by omega)]
                    exact h7
              · show (if q = w then p else qs q) ≠ (if n = w then p else qs n)
                rw [Q q (by omega)]
                by_cases z : n = w
                · rw [z, Qw]
                  exact pn q (by omega)
                · rw [Q n (by omega)]
                  exact q3 q n h1 (by omega)
              · show upd (x.2.2.1 4) j (nI (qs i)) u = -1 ∨ ∃ q, q < w + 1 ∧ f (if q = w then p else qs q) = some (H + u)
                by_cases z : u = j
                · exact Or.inr ⟨w, by omega, by rw [Qw, z]; exact b2⟩
                · rw [pk_un z]
                  rcases q4 u hu with h | ⟨q, h1, h2⟩
                  · exact Or.inl h
                  · exact Or.inr ⟨q, by omega, by rw [Q q h1]; exact h2⟩
              · show upd (x.2.2.1 4) j (nI (qs i)) u ≠ -1
                by_cases z : u = j
                · rw [z, pk_us]
                  exact nI_m1 (by have := qi.2; omega)
                · rw [pk_un z]
                  have qw : q < w := by omega
                  have h5 : hA (y.2 0) (if q = w then p else qs q) (H + u) := h4
                  rw [Q q qw] at h5
                  exact q5 q u qw h2 (by omega) h5
            have r := ih (x := kkR (kkR x 4 (upd (x.2.2.1 4) j (nI (qs i)))) 1 (upd (x.2.2.1 1) w (nI p))) (j := j + 1) (w := w + 1) (by omega) (by omega) hx hB2
            have p2 : kPl x (kkR (kkR x 4 (upd (x.2.2.1 4) j (nI (qs i)))) 1 (upd (x.2.2.1 1) w (nI p))) := kPl_t (kPl_k ⟨by decide, by decide⟩) (kPl_k ⟨by decide, by decide⟩)
            revert r
            generalize fhI i k (kkR (kkR x 4 (upd (x.2.2.1 4) j (nI (qs i)))) 1 (upd (x.2.2.1 1) w (nI p))) (j + 1) (nI (w + 1)) = z
            intro r
            cases z with
            | inl z =>
              obtain ⟨r1, x2, r2, r3⟩ := r
              exact ⟨r1, x2, kPl_t p2 r2, r3⟩
            | inr z => exact ⟨kPl_t p2 r.1, r.2⟩
    · rw [if_neg c1]
      refine ih (j := j + 1) (by omega) hi hx ⟨w8, w0, q0, q1, q2, q3, q4, fun q u h1 h2 h3 h4 => ?_, hR⟩
      by_cases z : q = i ∧ u = j
      · rw [z.2]
        exact c1
      · exact q5 q u h1 h2 (by omega) h4
/-- the whole queue -/
theorem fhL_s (R : RJ hb t c (y.2 0)) (hh : hb < 2 ^ 27) {H : Nat} (hH : H < 2 ^ 28) (e4 : c.2.1 4 = nI H) {f : Nat → Option Nat} {S T : Nat → Prop} {a : Nat} (hS : S a) (hv : vF (hA (y.2 0)) H 33 S f) (hD : mD (hA (y.2 0)) H a f T) (ha : a < nL (y.2 0)) (hn : f a = none) {k : Nat} : ∀ {x : kK} {j w : Nat} {qs : Nat → Nat}, j + k = 8 → j ≤ w → x.1 0 = c → mB (hA (y.2 0)) H f a j 0 w qs x →
    Sum.elim (fun z : kK × Int32 => z.2 = 1 ∧ kPl x z.1 ∧ ∃ g, mR H 33 g z.1 ∧ vF (hA (y.2 0)) H 33 S g ∧ szF g 8 = szF f 8 + 1 ∧ mD (hA (y.2 0)) H (a + 1) g T) (fun z => kPl x z ∧ mR H 33 f z ∧ ∃ T2, mD (hA (y.2 0)) H (a + 1) f T2) (fhL k x j (nI w)) := by
  have m8 := R.nL8
  -- nothing is left to search
  have fin : ∀ {x : kK} {w : Nat} {qs : Nat → Nat}, mB (hA (y.2 0)) H f a w 0 w qs x → kPl x x ∧ mR H 33 f x ∧ ∃ T2, mD (hA (y.2 0)) H (a + 1) f T2 := by
    rintro x w qs ⟨w8, w0, q0, q1, q2, q3, q4, q5, hR⟩
    have cl : ∀ q u, q < w → H ≤ u → u < H + 33 → hA (y.2 0) (qs q) u → ∃ n, n < w ∧ f (qs n) = some u := by
      intro q u hq h1 h2 h3
      have e : H + (u - H) = u := by omega
      rcases q4 (u - H) (by omega) with z | z
      · exact absurd z (q5 q (u - H) hq (by omega) (Or.inl hq) (by rw [e]; exact h3))
      · rw [e] at z; exact z
    refine ⟨kPl_r, hR, fun u => T u ∨ ∃ n, n < w ∧ f (qs n) = some u, fun p u h1 h2 h3 h4 h5 => ?_, fun p u v h1 h2 h3 h4 h5 => ?_, fun u h => ?_⟩
    · by_cases z : p = a
      · exact Or.inr (cl 0 u w0 h3 h4 (by rw [q0, ← z]; exact h5))
      · exact Or.inl (hD.1 p u (by omega) h2 h3 h4 h5)
    · rcases h2 with h2 | ⟨n, n1, n2⟩
      · exact Or.inl (hD.2.1 p u v h1 h2 h3 h4 h5)
      · have e := hv.2 p (qs n) v h1 n2
        rw [e] at h5
        exact Or.inr (cl n u n1 h3 h4 h5)
    · rcases h with h | ⟨n, -, n2⟩
      · exact hD.2.2 u h
      · exact ⟨qs n, n2⟩
  induction k with
  | zero =>
    intro x j w qs hj hw hx hB
    have w8 := hB.1
    have : w = j := by omega
    subst this
    rw [fhL, if_pos (nI_le (Nat.le_refl w) (by omega))]
    exact fin hB
  | succ k ih =>
    intro x j w qs hj hw hx hB
    have w8 := hB.1
    rw [fhL]
    by_cases c1 : w ≤ j
    · have : w = j := by omega
      subst this
      rw [if_pos (nI_le (Nat.le_refl w) (by omega))]
      exact fin hB
    · rw [if_neg (nI_ge (by omega) (by omega))]
      have r := fhI_s R hh hH e4 hv ha hn (i := j) (k := 33) (x := x) (j := 0) (w := w) (by omega) (by omega) hx hB
      have e0 : nI 0 = (0 : Int32) := rfl
      revert r
      generalize fhI j 33 x 0 (nI w) = z
      intro r
      cases z with
      | inl z =>
        obtain ⟨r1, x2, r2, u, qs2, w2, hu, hw2, r3, q0, w28, hR, no, q1, q3, e5, hA2, q2⟩ := r
        have Sq : ∀ q, q < w2 → S (qs2 q) := by
          intro q hq
          by_cases z0 : q = 0
          · rw [z0, q0]; exact hS
          · obtain ⟨v, -, fv, -⟩ := q2 q (by omega) hq
            exact (hv.1 _ _ fv).2.1
        have nT : ¬ T (H + u) := by
          intro z
          obtain ⟨p, hp⟩ := hD.2.2 _ z
          exact no p hp
        obtain ⟨g, g1, g2, g3, g4, g5⟩ := ghL_s (A := hA (y.2 0)) (H := H) (S := S) (T := T) (qs := qs2) (a := a) (j0 := a) q0 (k := 8) (f := f) (x := x2) (i := 0) (u := u) (r := j) (by omega) hu ⟨hR.1, fun v hv _ => hR.2 v hv (by omega)⟩ hv hD no nT (fun q hq => ⟨q1 q (by omega), Sq q (by omega)⟩) (fun q n h1 h2 => q3 q n h1 (by omega)) e5 hA2 hn (fun q h1 h2 => q2 q h1 (by omega))
        show z.2 = 1 ∧ kPl x z.1 ∧ ∃ g, mR H 33 g z.1 ∧ _
        rw [r3]
        refine ⟨r1, kPl_t r2 ghL_pl, g, g1, g2, g3, fun p v h1 h2 h3 h4 h5 => ?_, g4.2.1, g4.2.2⟩
        have := (g5 p h2).2
        exact g4.1 p v (by omega) h2 h3 h4 h5
      | inr z =>
        obtain ⟨r1, w2, qs2, r2, r3, b1, b2, b3, b4, b5, b6, b7, b8, b9⟩ := r
        have q := ih (x := z.1) (j := j + 1) (w := w2) (qs := qs2) (by omega) (by omega) (by rw [r1.1]; exact hx) ⟨b1, b2, b3, b4, b5, b6, b7, fun q u h1 h2 h3 h4 => b8 q u h1 h2 (by omega) h4, b9⟩
        show Sum.elim _ _ (fhL k z.1 (j + 1) z.2)
        rw [r2]
        revert q
        generalize fhL k z.1 (j + 1) (nI w2) = s
        intro q
        cases s with
        | inl s => exact ⟨q.1, kPl_t r1 q.2.1, q.2.2⟩
        | inr s => exact ⟨kPl_t r1 q.1, q.2⟩
/-- one plea more -/
theorem fh_s (R : RJ hb t c (y.2 0)) (hh : hb < 2 ^ 27) {H : Nat} (hH : H < 2 ^ 28) (e4 : c.2.1 4 = nI H) {f : Nat → Option Nat} {T : Nat → Prop} {a : Nat} (ha : a < nL (y.2 0)) {x : kK} (hx : x.1 0 = c) (hR : mR H 33 f x) (hv : vF (hA (y.2 0)) H 33 (fun p => p < a) f) (hD : mD (hA (y.2 0)) H a f T) :
    kPl x (g_X5_findHour x (nI a)) ∧ ∃ g T, mR H 33 g (g_X5_findHour x (nI a)) ∧ vF (hA (y.2 0)) H 33 (fun p => p < a + 1) g ∧ mD (hA (y.2 0)) H (a + 1) g T ∧ ((f_X5_findHour x (nI a) = 0 ∧ szF g 8 = szF f 8) ∨ (f_X5_findHour x (nI a) = 1 ∧ szF g 8 = szF f 8 + 1)) := by
  have m8 := R.nL8
  have hn : f a = none := by
    cases e : f a with
    | none => rfl
    | some u => exact absurd (hv.1 a u e).2.1 (Nat.lt_irrefl a)
  have hv2 : vF (hA (y.2 0)) H 33 (fun p => p < a + 1) f := ⟨fun p u e => by obtain ⟨h1, h2, h3⟩ := hv.1 p u e; exact ⟨h1, Nat.lt_succ_of_lt h2, h3⟩, hv.2⟩
  have pl : kPl x (kkR (kkR x 4 (filR 33 (-1) (x.2.2.1 4))) 1 (upd (x.2.2.1 1) 0 (nI a))) := kPl_t (kPl_k ⟨by decide, by decide⟩) (kPl_k ⟨by decide, by decide⟩)
  have r := fhL_s R hh hH e4 (S := fun p => p < a + 1) (Nat.lt_succ_self a) hv2 hD ha hn (k := 8) (x := kkR (kkR x 4 (filR 33 (-1) (x.2.2.1 4))) 1 (upd (x.2.2.1 1) 0 (nI a))) (j := 0) (w := 1) (qs := fun _ => a) (by omega) (by omega) hx ⟨by omega, by omega, rfl, fun q hq => by
      have : q = 0 := by omega
      subst this
      exact ⟨(pk_us : upd (x.2.2.1 1) 0 (nI a) 0 = nI a), show a < 8 by omega⟩, fun q h1 h2 => by omega, fun q n h1 h2 => by omega, fun u hu => Or.inl (if_pos hu), fun q u h1 h2 h3 => by omega, hR⟩
  unfold f_X5_findHour g_X5_findHour
  rw [show Int32.toNatClampNeg 0 = 0 from rfl]
  revert r
  show Sum.elim _ _ (fhL 8 _ 0 1) → _
  generalize fhL 8 (kkR (kkR x 4 (filR 33 (-1) (x.2.2.1 4))) 1 (upd (x.2.2.1 1) 0 (nI a))) 0 1 = z
  intro r
  cases z with
  | inl z =>
    obtain ⟨r1, r2, g, r3, r4, r5, r6⟩ := r
    exact ⟨kPl_t pl r2, g, T, r3, r4, r6, Or.inr ⟨r1, r5⟩⟩
  | inr z =>
    obtain ⟨r1, r2, T2, r3⟩ := r
    exact ⟨kPl_t pl r1, f, T2, r2, hv2, r3, Or.inl ⟨rfl, rfl⟩⟩
theorem mcL_s (R : RJ hb t c (y.2 0)) (hh : hb < 2 ^ 27) {H : Nat} (hH : H < 2 ^ 28) (e4 : c.2.1 4 = nI H) {c6 : Int32} {k : Nat} : ∀ {x : kK} {j : Nat} {f : Nat → Option Nat} {T : Nat → Prop}, j + k = nL (y.2 0) → x.1 0 = c → mR H 33 f x → vF (hA (y.2 0)) H 33 (fun p => p < j) f → mD (hA (y.2 0)) H j f T →
    kPl x (mcL c6 k x j (nI (szF f 8))).1 ∧ ∃ g T, (mcL c6 k x j (nI (szF f 8))).2 = nI (szF g 8) ∧ vF (hA (y.2 0)) H 33 (fun p => p < nL (y.2 0)) g ∧ mD (hA (y.2 0)) H (nL (y.2 0)) g T := by
  induction k with
  | zero =>
    intro x j f T hj hx hR hv hD
    have : j = nL (y.2 0) := by omega
    subst this
    exact ⟨kPl_r, f, T, rfl, hv, hD⟩
  | succ k ih =>
    intro x j f T hj hx hR hv hD
    obtain ⟨p1, g, T2, r1, r2, r3, r4⟩ := fh_s R hh hH e4 (a := j) (by omega) hx hR hv hD
    rw [mcL]
    have hx2 : (g_X5_findHour x (nI j)).1 0 = c := by rw [p1.1]; exact hx
    rcases r4 with ⟨e1, e2⟩ | ⟨e1, e2⟩
    · rw [if_pos e1, ← e2]
      obtain ⟨p2, q⟩ := ih (j := j + 1) (by omega) hx2 r1 r2 r3
      exact ⟨kPl_t p1 p2, q⟩
    · rw [e1, if_neg z10, show nI (szF f 8) + Int32.ofInt 1 = nI (szF f 8 + 1) from nI_1 _, ← e2]
      obtain ⟨p2, q⟩ := ih (j := j + 1) (by omega) hx2 r1 r2 r3
      exact ⟨kPl_t p1 p2, q⟩
end FH
theorem q_mostHearingsByChains {t : Nat} {x : kK} {y : kY} (X : RX t x y) (ht : t < 2 ^ 20) : RX t (g_X11_mostHearingsByChains x) (g_X12_mostHearingsByChains y) ∧ f_X11_mostHearingsByChains x = f_X12_mostHearingsByChains y ∧ (g_X12_mostHearingsByChains y).1 0 = 0 := by
  have R := X.R
  have m8 := R.nL8
  have kp : kPn x = nL (y.2 0) := by
    unfold kPn
    rw [R.n6]
  have eB := isN_cl R.B.2.2.2.2.2.1 (by omega)
  have s0 : szF (fun _ => none) 8 = 0 := rfl
  have pl : kPl x (kkR (kkR x 2 (filR 8 (-1) (x.2.2.1 2))) 3 (filR 33 (-1) (x.2.2.1 3))) := kPl_t (kPl_k ⟨by decide, by decide⟩) (kPl_k ⟨by decide, by decide⟩)
  obtain ⟨p1, g, T, r1, r2, r3⟩ := mcL_s (c := x.1 0) R (by omega) (H := (y.2 0 0).toNatClampNeg) (by omega) (by rw [R.n4]; exact eB.1) (c6 := (x.1 0).2.1 6) (k := nL (y.2 0)) (x := kkR (kkR x 2 (filR 8 (-1) (x.2.2.1 2))) 3 (filR 33 (-1) (x.2.2.1 3))) (j := 0) (f := fun _ => none) (T := fun _ => False) (by omega) rfl ⟨fun p hp => Or.inl ⟨rfl, if_pos hp⟩, fun u hu _ => Or.inl ⟨if_pos hu, fun p e => (by cases e)⟩⟩ ⟨fun p u e => (by cases e), fun p q u e => (by cases e)⟩ ⟨fun p u h => absurd h (Nat.not_lt_zero p), fun p u v e => (by cases e), fun u h => h.elim⟩
  have cc := mc_co R.iv X.O.2.1
  refine ⟨RX_pl X (kPl_t pl ?_) cc.2 0, ?_, rfl⟩
  · unfold g_X11_mostHearingsByChains g_X5_mostByChains
    rw [kp]
    exact p1
  · unfold f_X11_mostHearingsByChains f_X5_mostByChains f_X12_mostHearingsByChains
    rw [kp]
    show (mcL _ _ _ 0 (nI (szF (fun _ => none) 8))).2 = _
    rw [r1]
    refine (mxY R (by omega) ?_).symm
    refine Mx_full r2 T (fun p u hp hs h1 h2 h3 h4 => r3.1 p u hs h1 h2 h3 h4) r3.2.1 r3.2.2
