/-! WHAT CAN BE REACHED: the reference. -/
/-- reached from c0 by steps of the four sides into cells that are no trees -/
def Rch (tr : Nat → Bool) (c0 q : Nat) : Prop := ∀ P : Nat → Prop, P c0 → (∀ p j, p < 64 → P p → j < 4 → tr (nx p (2 * j)) = false → P (nx p (2 * j))) → P q
theorem Rch_0 {tr : Nat → Bool} {c0 : Nat} : Rch tr c0 c0 := fun _ h _ => h
theorem Rch_s {tr : Nat → Bool} {c0 p j : Nat} (h : Rch tr c0 p) (hp : p < 64) (hj : j < 4) (ht : tr (nx p (2 * j)) = false) : Rch tr c0 (nx p (2 * j)) := fun P h0 hs => hs p j hp (h P h0 hs) hj ht
/-- a set that holds c0, is closed and holds nothing else is what is reached -/
theorem Rch_is {tr : Nat → Bool} {c0 q : Nat} {S : Nat → Prop} (h0 : S c0) (hs : ∀ p j, p < 64 → S p → j < 4 → tr (nx p (2 * j)) = false → S (nx p (2 * j))) (hr : S q → Rch tr c0 q) : S q ↔ Rch tr c0 q := ⟨hr, fun h => h S h0 hs⟩
section RCR
variable {x y : kY}
def mk5 (y : kY) (c : Nat) : Prop := y.2 5 c = 1
theorem rw_s {tr : Nat → Bool} {i : Nat} (hi : i < 64) {k : Nat} : ∀ {x : kY} {j : Nat} {m : Int32}, j + k = 4 → (∀ c, c < 64 → f_X12_isTree (x.2 0) (nI c) = if tr c = true then 1 else 0) → (∀ c, mk5 x c → mk5 (rwI i k x j m).1 c) ∧ (∀ c, mk5 (rwI i k x j m).1 c → mk5 x c ∨ (mk5 x i ∧ ∃ j, j < 4 ∧ c = nx i (2 * j) ∧ tr c = false)) ∧ ((rwI i k x j m).2 = 0 → m = 0 ∧ (rwI i k x j m).1 = x ∧ (mk5 x i → ∀ j2, j ≤ j2 → j2 < 4 → tr (nx i (2 * j2)) = false → mk5 x (nx i (2 * j2)))) := by
  induction k with
  | zero => intro x j m hj _; exact ⟨fun _ h => h, fun _ h => Or.inl h, fun h => ⟨h, rfl, fun _ j2 a b => by omega⟩⟩
  | succ k ih =>
    intro x j m hj ht
    have hj4 : j < 4 := by omega
    have e2 : (nI (2 * j) : Int32) = nI (2 * j) := rfl
    rw [rwI, next_nx hi (show 2 * j < 8 by omega), nI_clamp (show i < 2 ^ 31 by omega), nI_clamp (show nx i (2 * j) < 2 ^ 31 by have := nx_lt (n := i) (w := 2 * j); omega), ht _ nx_lt]
    by_cases h1 : x.2 5 i = 1
    · rw [if_pos h1]
      by_cases h2 : x.2 5 (nx i (2 * j)) = 1
      · rw [if_pos h2]
        obtain ⟨a1, a2, a3⟩ := ih (x := x) (j := j + 1) (m := m) (by omega) ht
        refine ⟨a1, a2, fun z => ?_⟩
        obtain ⟨b1, b2, b3⟩ := a3 z
        refine ⟨b1, b2, fun hm j2 q1 q2 q3 => ?_⟩
        by_cases ej : j2 = j
        · subst ej; exact h2
        · exact b3 hm j2 (by omega) q2 q3
      · rw [if_neg h2]
        cases hb : tr (nx i (2 * j)) with
        | false =>
          rw [if_neg (show ¬ (false = true) by decide), if_pos rfl]
          obtain ⟨a1, a2, a3⟩ := ih (x := yR x 5 (upd (x.2 5) (nx i (2 * j)) 1)) (j := j + 1) (m := 1) (by omega) ht
          have up : ∀ c, mk5 x c → mk5 (yR x 5 (upd (x.2 5) (nx i (2 * j)) 1)) c := by
            intro c h
            show upd (x.2 5) (nx i (2 * j)) 1 c = 1
            by_cases e : c = nx i (2 * j)
            · subst e; rw [pk_us]
            · rw [pk_un e]; exact h
          have dn : ∀ c, mk5 (yR x 5 (upd (x.2 5) (nx i (2 * j)) 1)) c → mk5 x c ∨ (mk5 x i ∧ ∃ j, j < 4 ∧ c = nx i (2 * j) ∧ tr c = false) := by
            intro c h
            by_cases e : c = nx i (2 * j)
            · exact Or.inr ⟨h1, j, hj4, e, by rw [e]; exact hb⟩
            · have h : upd (x.2 5) (nx i (2 * j)) 1 c = 1 := h
              rw [pk_un e] at h
              exact Or.inl h
          refine ⟨fun c h => a1 c (up c h), fun c h => ?_, fun z => ?_⟩
          · rcases a2 c h with h | ⟨-, h⟩
            · exact dn c h
            · exact Or.inr ⟨h1, h⟩
          · exact absurd (a3 z).1 z10
        | true =>
          rw [if_pos rfl, if_neg z10]
          obtain ⟨a1, a2, a3⟩ := ih (x := x) (j := j + 1) (m := m) (by omega) ht
          refine ⟨a1, a2, fun z => ?_⟩
          obtain ⟨b1, b2, b3⟩ := a3 z
          refine ⟨b1, b2, fun hm j2 q1 q2 q3 => ?_⟩
          by_cases ej : j2 = j
          · subst ej; rw [hb] at q3; cases q3
          · exact b3 hm j2 (by omega) q2 q3
    · rw [if_neg h1]
      exact ⟨fun _ h => h, fun _ h => Or.inl h, fun z => ⟨z, rfl, fun hm => absurd hm h1⟩⟩
theorem rc_s {tr : Nat → Bool} {c0 : Nat} {k : Nat} : ∀ {x : kY} {j : Nat} {m : Int32}, j + k = 64 → (∀ c, c < 64 → f_X12_isTree (x.2 0) (nI c) = if tr c = true then 1 else 0) → (∀ c, c < 64 → mk5 x c → Rch tr c0 c) → (∀ c, mk5 x c → mk5 (rcI k x j m).1 c) ∧ (∀ c, c < 64 → mk5 (rcI k x j m).1 c → Rch tr c0 c) ∧ ((rcI k x j m).2 = 0 → m = 0 ∧ (rcI k x j m).1 = x ∧ ∀ i, j ≤ i → i < 64 → mk5 x i → ∀ j2, j2 < 4 → tr (nx i (2 * j2)) = false → mk5 x (nx i (2 * j2))) := by
  induction k with
  | zero => intro x j m hj _ h; exact ⟨fun _ h => h, h, fun z => ⟨z, rfl, fun i a b => by omega⟩⟩
  | succ k ih =>
    intro x j m hj ht hr
    have hj6 : j < 64 := by omega
    rw [rcI]
    obtain ⟨a1, a2, a3⟩ := rw_s (tr := tr) hj6 (k := 4) (x := x) (j := 0) (m := m) (by omega) ht
    have kx := rwI_x hj6 (k := 4) (x := x) (j := 0) (m := m) (by omega)
    have e0 := kx.2.1 0 (by decide)
    obtain ⟨b1, b2, b3⟩ := ih (x := (rwI j 4 x 0 m).1) (j := j + 1) (m := (rwI j 4 x 0 m).2) (by omega) (by rw [e0]; exact ht) (fun c hc h => by
      rcases a2 c h with h | ⟨h, j3, q1, q2, q3⟩
      · exact hr c hc h
      · rw [q2]; exact Rch_s (hr j hj6 h) hj6 q1 (by rw [← q2]; exact q3))
    refine ⟨fun c h => b1 c (a1 c h), b2, fun z => ?_⟩
    obtain ⟨c1, c2, c3⟩ := b3 z
    obtain ⟨d1, d2, d3⟩ := a3 c1
    rw [d2] at c2 c3
    refine ⟨d1, by rw [d2]; exact c2, fun i q1 q2 hm j2 q3 q4 => ?_⟩
    by_cases e : i = j
    · subst e; exact d3 hm j2 (Nat.zero_le _) q3 q4
    · exact c3 i (by omega) q2 hm j2 q3 q4
def clo (tr : Nat → Bool) (x : kY) : Prop := ∀ p j2, p < 64 → mk5 x p → j2 < 4 → tr (nx p (2 * j2)) = false → mk5 x (nx p (2 * j2))
theorem rh_s {tr : Nat → Bool} {c0 : Nat} {k : Nat} : ∀ {x : kY} {j : Nat} {m : Int32}, (m = 0 → clo tr x) → (m = 0 ∨ muC (x.2 5) 64 < k) → (∀ c, c < 64 → f_X12_isTree (x.2 0) (nI c) = if tr c = true then 1 else 0) → (∀ c, c < 64 → mk5 x c → Rch tr c0 c) → mk5 x c0 → mk5 (rhL k x j m).1 c0 ∧ (∀ c, c < 64 → mk5 (rhL k x j m).1 c → Rch tr c0 c) ∧ clo tr (rhL k x j m).1 ∧ (rhL k x j m).1.1 = x.1 ∧ ∀ r, r ≠ 5 → (rhL k x j m).1.2 r = x.2 r := by
  induction k with
  | zero =>
    intro x j m h h2 ht hr h0
    rcases h2 with h2 | h2
    · exact ⟨h0, hr, h h2, rfl, fun _ _ => rfl⟩
    · omega
  | succ k ih =>
    intro x j m h h2 ht hr h0
    rw [rhL]
    by_cases hm : m = 0
    · rw [if_pos hm]
      exact ⟨h0, hr, h hm, rfl, fun _ _ => rfl⟩
    · rw [if_neg hm]
      have hmu : muC (x.2 5) 64 < k + 1 := by
        rcases h2 with h2 | h2
        · exact absurd h2 hm
        · exact h2
      obtain ⟨a1, a2, a3⟩ := rc_s (tr := tr) (c0 := c0) (k := 64) (x := x) (j := 0) (m := 0) (by omega) ht hr
      obtain ⟨k1, k2, k3, k4⟩ := rcI_x (k := 64) (x := x) (j := 0) (m := 0) (by omega)
      obtain ⟨b1, b2, b3, b4, b5⟩ := ih (x := (rcI 64 x 0 0).1) (j := j + 1) (m := (rcI 64 x 0 0).2) (fun z => by
        obtain ⟨-, c2, c3⟩ := a3 z
        rw [c2]
        exact fun p j2 q1 q2 q3 q4 => c3 p (Nat.zero_le _) q1 q2 j2 q3 q4) (by
        rcases k4 with z | z
        · exact Or.inl z
        · right; omega) (by rw [k2 0 (by decide)]; exact ht) a2 (a1 c0 h0)
      exact ⟨b1, b2, b3, b4.trans k1, fun r hr5 => (b5 r hr5).trans (k2 r hr5)⟩
theorem rm_s {a b : Int32} {c0 : Nat} (h6 : c0 < 64) (hc : 8 * b + a = nI c0) {k : Nat} : ∀ {x : kY} {j : Nat}, j + k = 64 → (rmI a b k x j).1 = x.1 ∧ (∀ r, r ≠ 5 → (rmI a b k x j).2 r = x.2 r) ∧ (∀ c, c < j → (rmI a b k x j).2 5 c = x.2 5 c) ∧ ∀ c, j ≤ c → c < 64 → (rmI a b k x j).2 5 c = if c = c0 then 1 else 0 := by
  induction k with
  | zero => intro x j hj; exact ⟨rfl, fun _ _ => rfl, fun _ _ => rfl, fun c a b => by omega⟩
  | succ k ih =>
    intro x j hj
    have go : ∀ z : Int32, z = (if j = c0 then 1 else 0) → (rmI a b k (yR x 5 (upd (x.2 5) j z)) (j + 1)).1 = x.1 ∧ (∀ r, r ≠ 5 → (rmI a b k (yR x 5 (upd (x.2 5) j z)) (j + 1)).2 r = x.2 r) ∧ (∀ c, c < j → (rmI a b k (yR x 5 (upd (x.2 5) j z)) (j + 1)).2 5 c = x.2 5 c) ∧ ∀ c, j ≤ c → c < 64 → (rmI a b k (yR x 5 (upd (x.2 5) j z)) (j + 1)).2 5 c = if c = c0 then 1 else 0 := by
      intro z hz
      have e5 : (yR x 5 (upd (x.2 5) j z)).2 5 = upd (x.2 5) j z := rfl
      obtain ⟨a1, a2, a3, a4⟩ := ih (x := yR x 5 (upd (x.2 5) j z)) (j := j + 1) (by omega)
      rw [e5] at a3
      refine ⟨a1, fun r hr => (a2 r hr).trans (if_neg hr), fun c hcj => ?_, fun c q1 q2 => ?_⟩
      · rw [a3 c (by omega), pk_un (by omega)]
      · by_cases e : c = j
        · subst e; rw [a3 c (by omega), pk_us]; exact hz
        · exact a4 c (by omega) q2
    rw [rmI, hc, nI_clamp (show j < 2 ^ 31 by omega)]
    by_cases e : j = c0
    · rw [if_pos (by rw [e])]
      exact go 1 (by rw [if_pos e])
    · rw [if_neg (fun z => e ((nI_eq (by omega) (by omega)).1 z))]
      exact go 0 (by rw [if_neg e])
theorem rs_s {k : Nat} : ∀ {j : Nat} {s : Int64}, j + k = 64 → ∀ q, q < 64 → (tb (rsL x k j s) q = true ↔ (tb s q = true ∨ (j ≤ q ∧ x.2 5 q = 1))) := by
  induction k with
  | zero =>
    intro j s hj q hq
    exact ⟨Or.inl, fun h => h.elim id (fun h => by omega)⟩
  | succ k ih =>
    intro j s hj q hq
    have hj6 : j < 64 := by omega
    rw [rsL, nI_clamp (show j < 2 ^ 31 by omega)]
    by_cases h : x.2 5 j = 1
    · rw [if_pos h, ih (by omega) q hq, tb_or]
      have e : tb ((1 : Int64) <<< (Int32.toInt64 (nI j) &&& 63)) q = decide (q = j) := tb_N hj6 hq
      rw [e, Bool.or_eq_true, decide_eq_true_iff]
      constructor
      · rintro ((z | z) | ⟨z, w⟩)
        · exact Or.inl z
        · subst z; exact Or.inr ⟨Nat.le_refl _, h⟩
        · exact Or.inr ⟨by omega, w⟩
      · rintro (z | ⟨z, w⟩)
        · exact Or.inl (Or.inl z)
        · by_cases e2 : q = j
          · exact Or.inl (Or.inr e2)
          · exact Or.inr ⟨by omega, w⟩
    · rw [if_neg h, ih (by omega) q hq, show s ||| 0 = s from Int64.or_zero]
      constructor
      · rintro (z | ⟨z, w⟩)
        · exact Or.inl z
        · exact Or.inr ⟨by omega, w⟩
      · rintro (z | ⟨z, w⟩)
        · exact Or.inl z
        · by_cases e2 : q = j
          · subst e2; exact absurd w h
          · exact Or.inr ⟨by omega, w⟩
end RCR
section RCR2
variable {t : Nat} {x : kK} {y : kY}
/-- the reference's answer: what can be reached -/
theorem q_rchY (X : RX t x y) {a b : Int32} {c0 : Nat} (hi : f_X12_isCell a b = 1) (h6 : c0 < 64) (e3 : 8 * b + a = nI c0) (hc : tb (x.1 0).1 c0 = false) : (∀ c, c < 64 → (tb (f_X12_reach y a b) c = true ↔ Rch (tb (x.1 0).1) c0 c)) ∧ RX t x (g_X12_reach y a b) ∧ (g_X12_reach y a b).1 0 = 0 := by
  have tr : ∀ c, c < 64 → f_X12_isTree (y.2 0) (nI c) = if tb (x.1 0).1 c = true then 1 else 0 := by
    intro c h
    rw [isTree_at h, X.R.T c h]
    cases tb (x.1 0).1 c <;> rfl
  have t0 : f_X12_isTree (y.2 0) (nI c0) = 0 := by rw [tr c0 h6, hc]; rfl
  unfold f_X12_reach g_X12_reach
  rw [hi, if_neg z10, if_neg z10, e3, if_pos t0, if_pos t0]
  obtain ⟨a1, a2, -, a4⟩ := rm_s h6 e3 (k := 64) (x := yS y 0 0) (j := 0) (by omega)
  have m0 : ∀ c, c < 64 → (mk5 (rmI a b 64 (yS y 0 0) 0) c ↔ c = c0) := by
    intro c h
    unfold mk5
    rw [a4 c (Nat.zero_le _) h]
    by_cases e : c = c0
    · rw [if_pos e]; exact ⟨fun _ => e, fun _ => rfl⟩
    · rw [if_neg e]; exact ⟨fun z => absurd z (by decide), fun z => absurd z e⟩
  obtain ⟨b1, b2, b3, b4, b5⟩ := rh_s (tr := tb (x.1 0).1) (c0 := c0) (k := 65) (x := rmI a b 64 (yS y 0 0) 0) (j := 0) (m := 1) (fun z => absurd z z10) (Or.inr (Nat.lt_succ_of_le mu_le)) (by rw [a2 0 (by decide)]; exact tr) (fun c h hm => by rw [(m0 c h).1 hm]; exact Rch_0) ((m0 c0 h6).2 rfl)
  refine ⟨fun c h => ?_, ?_, ?_⟩
  · rw [rs_s (by omega) c h, tb_0]
    have is := Rch_is (tr := tb (x.1 0).1) (c0 := c0) (q := c) (S := fun c => c < 64 ∧ mk5 (rhL 65 (rmI a b 64 (yS y 0 0) 0) 0 1).1 c) ⟨h6, b1⟩ (fun p j hp hs hj ht => ⟨nx_lt, b3 p j hp hs.2 hj ht⟩) (fun hs => b2 c h hs.2)
    rw [← is]
    constructor
    · rintro (z | ⟨-, z⟩)
      · cases z
      · exact ⟨h, z⟩
    · intro z
      exact Or.inr ⟨Nat.zero_le _, z.2⟩
  · exact RX_q X (Nat.le_refl _) rfl (fun _ _ _ => rfl) (fun _ _ => rfl) X.O.2.1 (fun k k0 _ _ => by rw [b4, a1, ys_1, pk_un k0]) (fun r r4 r5 => by rw [b5 r r5, a2 r r5]; rfl)
  · rw [b4, a1, ys_1, pk_us]
theorem q_rchY_t (X : RX t x y) {a b : Int32} {c0 : Nat} (hi : f_X12_isCell a b = 1) (h6 : c0 < 64) (e3 : 8 * b + a = nI c0) (hc : tb (x.1 0).1 c0 = true) : f_X12_reach y a b = 0 ∧ RX t x (g_X12_reach y a b) ∧ (g_X12_reach y a b).1 0 = 0 := by
  have t0 : ¬ f_X12_isTree (y.2 0) (nI c0) = 0 := by rw [isTree_at h6, X.R.T c0 h6, hc]; decide
  unfold f_X12_reach g_X12_reach
  rw [hi, if_neg z10, if_neg z10, e3, if_neg t0, if_neg t0]
  exact ⟨rfl, RX_s X 0, rfl⟩
end RCR2
