/-- what an action may change -/
def kAc (x y : kY) : Prop := (∀ k, k ≠ 0 → k ≠ 4 → k ≠ 5 → k ≠ 7 → k ≠ 8 → y.1 k = x.1 k) ∧ (∀ r, r ≠ 0 → r ≠ 4 → y.2 r = x.2 r)
theorem kAc_r {x : kY} : kAc x x := ⟨fun _ _ _ _ _ _ => rfl, fun _ _ _ => rfl⟩
theorem kAc_t {x y z : kY} (h1 : kAc x y) (h2 : kAc y z) : kAc x z := ⟨fun k a b c d e => (h2.1 k a b c d e).trans (h1.1 k a b c d e), fun r a b => (h2.2 r a b).trans (h1.2 r a b)⟩
theorem kAc_0 {x : kY} {v : Int32} : kAc x (yS x 0 v) := ⟨fun k h _ _ _ _ => if_neg h, fun _ _ _ => rfl⟩
theorem kAc_7 {x : kY} {v : Int32} : kAc x (yS x 7 v) := ⟨fun k _ _ _ h _ => if_neg h, fun _ _ _ => rfl⟩
theorem kAc_8 {x : kY} {v : Int32} : kAc x (yS x 8 v) := ⟨fun k _ _ _ _ h => if_neg h, fun _ _ _ => rfl⟩
theorem kAc_v {x : kY} {f : Nat → Int32} : kAc x (yR x 0 f) := ⟨fun _ _ _ _ _ _ => rfl, fun r h _ => if_neg h⟩
theorem kAc_f {x : kY} {f : Nat → Int32} : kAc x (yR x 4 f) := ⟨fun _ _ _ _ _ _ => rfl, fun r _ h => if_neg h⟩
theorem ac_fail {x : kY} {a : Int32} : kAc x (g_X12_fail x a) := kAc_0
theorem ac_refuses {x : kY} {a b c : Int32} : kAc x (g_X12_refuses x a b c) := by
  unfold g_X12_refuses g_X12_fail
  exact ⟨fun k h0 h4 h5 _ _ => by show upd (upd (upd x.1 4 b) 5 c) 0 a k = _; rw [pk_un h0, pk_un h5, pk_un h4], fun _ _ _ => rfl⟩
theorem ac_enters {x : kY} {w : Int32} : kAc x (g_X12_enters x w) := by
  unfold g_X12_enters
  split
  · exact kAc_t (kAc_t kAc_8 kAc_7) kAc_f
  · exact kAc_8
theorem ac_fiI {a w : Int32} {k : Nat} : ∀ {x : kY} {j : Nat}, Sum.elim (fun y : kY × Int32 => kAc x y.1) (fun y : kY => kAc x y) (fiI a w k x j) := by
  induction k with
  | zero => intro x j; exact kAc_r
  | succ k ih =>
    intro x j
    rw [fiI]
    split
    · exact ac_enters
    · have h := ih (x := g_X12_enters x w) (j := j + 1)
      revert h
      generalize fiI a w k (g_X12_enters x w) (j + 1) = z
      intro h
      cases z with
      | inl y => exact kAc_t ac_enters h
      | inr y => exact kAc_t ac_enters h
theorem ac_fiL {a : Int32} {k : Nat} : ∀ {x : kY} {j : Nat} {w : Int32}, Sum.elim (fun y : kY × Int32 => kAc x y.1) (fun y : kY => kAc x y) (fiL a k x j w) := by
  induction k with
  | zero => intro x j w; exact kAc_r
  | succ k ih =>
    intro x j w
    have h1 := ac_fiI (a := a) (w := w) (k := Int32.toNatClampNeg (f_X12_arm a)) (x := x) (j := 0)
    rw [fiL]
    revert h1
    generalize fiI a w (Int32.toNatClampNeg (f_X12_arm a)) x 0 = z
    intro h1
    cases z with
    | inl y => exact h1
    | inr y =>
      simp only [Sum.elim_inr]
      have e : kAc x y := h1
      have go : ∀ (q : kY) (w2 : Int32), kAc x q → Sum.elim (fun y : kY × Int32 => kAc x y.1) (fun y : kY => kAc x y) (fiL a k q (j + 1) w2) := by
        intro q w2 e2
        have h9 := ih (x := q) (j := j + 1) (w := w2)
        revert h9
        generalize fiL a k q (j + 1) w2 = z
        intro h9
        cases z with
        | inl y => exact kAc_t e2 h9
        | inr y => exact kAc_t e2 h9
      split
      · split
        · exact go _ _ e
        · exact go _ _ e
      · split
        · exact kAc_t e ac_enters
        · split
          · exact go _ _ (kAc_t e ac_enters)
          · exact go _ _ (kAc_t e ac_enters)
theorem ac_flies {x : kY} {a : Int32} : kAc x (g_X12_flies x a) := by
  have h0 : kAc x (yS (yR (yS x 7 0) 4 (upd (x.2 4) 0 (x.2 0 3))) 8 0) := kAc_t (kAc_t kAc_7 kAc_f) kAc_8
  have h := ac_fiL (a := a) (k := 8) (x := yS (yR (yS x 7 0) 4 (upd (x.2 4) 0 (x.2 0 3))) 8 0) (j := 0) (w := a - a / 8 * 8)
  unfold g_X12_flies
  revert h
  generalize fiL a 8 (yS (yR (yS x 7 0) 4 (upd (x.2 4) 0 ((x.2 0) 3))) 8 0) 0 (a - a / 8 * 8) = z
  intro h
  cases z with
  | inl y => exact kAc_t h0 h
  | inr y => exact kAc_t h0 h
theorem ac_serves {x : kY} {a p : Int32} : kAc x (g_X12_serves x a p) := by rw [serves_g]; exact ac_flies
theorem ac_plants {x : kY} {a b c : Int32} : kAc x (g_X12_plants x a b c) := by
  unfold g_X12_plants
  split
  · exact ac_fail
  · split
    · exact kAc_v
    · split
      · split
        · exact ac_refuses
        · exact kAc_v
      · exact ac_refuses
theorem ac_benches {x : kY} {a b : Int32} : kAc x (g_X12_benches x a b) := by
  unfold g_X12_benches
  split
  · exact ac_fail
  · split
    · split
      · exact kAc_v
      · exact ac_refuses
    · exact ac_refuses
theorem ac_blows {x : kY} {a b : Int32} : kAc x (g_X12_blows x a b) := by
  unfold g_X12_blows
  split
  · exact ac_fail
  · split
    · exact ac_fail
    · exact kAc_t kAc_v kAc_v
theorem ac_mayStand {x : kY} {a b c : Int32} : kAc x (g_X12_mayStand x a b c) := by
  have h : ∀ p q r : Int32, kAc x (g_X12_refuses (yS x 0 c) p q r) := fun p q r => kAc_t kAc_0 ac_refuses
  unfold g_X12_mayStand
  repeat' split
  all_goals first
    | exact h _ _ _
    | exact kAc_0
theorem ac_adds {x : kY} {a b : Int32} : kAc x (g_X12_adds x a b) := by
  unfold g_X12_adds
  split
  · exact ac_fail
  · split
    · exact ac_fail
    · split
      · exact ac_mayStand
      · exact kAc_t (kAc_t (kAc_t ac_mayStand kAc_v) kAc_v) kAc_v
theorem ac_moves {x : kY} {a b c : Int32} : kAc x (g_X12_moves x a b c) := by
  unfold g_X12_moves
  split
  · exact ac_fail
  · split
    · exact ac_fail
    · split
      · exact ac_mayStand
      · exact kAc_t ac_mayStand kAc_v
theorem ac_goL {k : Nat} : ∀ {x : kY} {j : Nat}, kAc x (goL k x j) := by
  induction k with
  | zero => intro x j; exact kAc_r
  | succ k ih =>
    intro x j
    rw [goL]
    split
    · exact kAc_t kAc_v ih
    · exact kAc_t kAc_v ih
theorem ac_goes {x : kY} {a : Int32} : kAc x (g_X12_goes x a) := by
  unfold g_X12_goes
  exact kAc_t ac_goL kAc_v
theorem ac_hoL {p k : Nat} : ∀ {x : kY} {j : Nat} {s : Int32}, kAc x (hoL p k x j s).1 := by
  induction k with
  | zero => intro x j s; exact kAc_r
  | succ k ih =>
    intro x j s
    rw [hoL]
    split
    · exact kAc_t ac_goes ih
    · exact ih
theorem ac_hourPasses {x : kY} : kAc x (g_X12_hourPasses x) := by
  unfold g_X12_hourPasses
  exact kAc_t kAc_v ac_hoL
theorem ac_psL {a : Int32} {k : Nat} : ∀ {x : kY} {j : Nat} {s : Int32}, kAc x (psL a k x j s).1 := by
  induction k with
  | zero => intro x j s; exact kAc_r
  | succ k ih =>
    intro x j s
    rw [psL]
    exact kAc_t ac_hourPasses ih
theorem ac_passes {x : kY} {a : Int32} : kAc x (g_X12_passes x a) := by
  unfold g_X12_passes
  split
  · exact ac_fail
  · exact ac_psL
theorem ac_hears {x : kY} {a : Int32} : kAc x (g_X12_hears x a) := by
  unfold g_X12_hears
  split
  · exact ac_fail
  · split
    · exact ac_refuses
    · split
      · exact kAc_t (kAc_t kAc_v ac_goes) ac_hourPasses
      · exact ac_refuses
theorem ac_buys {x : kY} {a : Int32} : kAc x (g_X12_buys x a) := by
  unfold g_X12_buys
  split
  · exact ac_fail
  · split
    · exact kAc_t kAc_v kAc_v
    · exact ac_fail
theorem ac_seats {x : kY} {a b : Int32} : kAc x (g_X12_seats x a b) := by
  unfold g_X12_seats
  repeat' split
  all_goals first
    | exact kAc_r
    | exact kAc_v
    | exact ac_fail
theorem kAc_z {x y : kY} {f : Nat → Int32} (h : kAc x y) : kAc x (yR y 0 f) := kAc_t h kAc_v
set_option maxHeartbeats 4000000 in
theorem ac_summons {x : kY} {a b : Int32} : kAc x (g_X12_summons x a b) := by
  unfold g_X12_summons
  split
  · exact ac_fail
  · split
    · exact ac_fail
    · split
      · exact ac_refuses
      · split
        · split
          · split
            · repeat' with_reducible refine kAc_z ?_
              exact ac_serves
            · repeat' with_reducible refine kAc_z ?_
              exact ac_serves
          · repeat' with_reducible refine kAc_z ?_
            exact ac_serves
        · exact ac_refuses
theorem ch_ac {x y : kY} (h : kAc x y) (hc : ∃ c, c ≤ 8 ∧ x.1 1 = nI c) : ∃ c, c ≤ 8 ∧ y.1 1 = nI c := by
  obtain ⟨c, h1, e⟩ := hc
  exact ⟨c, h1, (h.1 1 (by decide) (by decide) (by decide) (by decide) (by decide)).trans e⟩
