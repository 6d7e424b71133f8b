/-! MOST HEARINGS: the class's queue. -/
theorem nI_m1 {n : Nat} (h : n < 2 ^ 31) : nI n ≠ -1 := fun e => nI_pos h (by rw [e]; decide)
/-- pleas that are in S alone cannot be heard -/
theorem Mx_r {A : Nat → Nat → Prop} {h k m : Nat} {S T : Nat → Prop} (st : ∀ p, p < 8 → T p → S p) (no : ∀ p t, p < 8 → S p → ¬ T p → ¬ A p t) (a : Mx A h k T m) : Mx A h k S m := by
  have to : ∀ f, vF A h k T f ↔ vF A h k S f := by
    intro f
    refine ⟨fun q => ⟨fun p t e => ?_, q.2⟩, fun q => ⟨fun p t e => ?_, q.2⟩⟩
    · obtain ⟨h1, h2, h3, h4, h5⟩ := q.1 p t e
      exact ⟨h1, st p h1 h2, h3, h4, h5⟩
    · obtain ⟨h1, h2, h3, h4, h5⟩ := q.1 p t e
      refine ⟨h1, ?_, h3, h4, h5⟩
      by_cases z : T p
      · exact z
      · exact absurd h5 (no p t h1 h2 z)
  obtain ⟨⟨f, hf, e⟩, a2⟩ := a
  exact ⟨⟨f, (to f).1 hf, e⟩, fun g hg => a2 g ((to g).2 hg)⟩
section MQ
variable {t hb : Nat} {x : kK} {y : kY}
/-- the class's question, in numbers -/
theorem cbh (R : RJ hb t (x.1 0) (y.2 0)) (hh : hb < 2 ^ 28) {l h : Nat} (hl : l < nL (y.2 0)) (h2 : h < 2 ^ 29) : (f_X3_canBeHeard x (nI l) (nI h) = 0 ∧ ¬ hA (y.2 0) l h) ∨ (f_X3_canBeHeard x (nI l) (nI h) = 1 ∧ hA (y.2 0) l h) := by
  have n8 := R.nL8
  obtain ⟨F, H, f1, h1, eF, eH, eH2, eF2, hle, -⟩ := hrs R (by omega) hl
  have hF2 : hF (y.2 0) l = F := by unfold hF; rw [eF2, nI_clamp (by omega)]
  unfold f_X3_canBeHeard f_X3_lastHour
  rw [nI_clamp (show l < 2 ^ 31 by omega), eF, show nI F + 24 = nI (F + 24) from nI_add F 24, ← sits_eq R (by omega), sY_at (by omega)]
  unfold hA
  rw [hF2]
  by_cases a : h < F
  · rw [if_pos (nI_lt a (by omega))]
    exact Or.inl ⟨rfl, fun z => by have := z.2.2.1; omega⟩
  · rw [if_neg (show ¬ nI h < nI F from nI_nlt (by omega) (by omega))]
    by_cases b : F + 24 < h
    · rw [if_pos (nI_lt b (by omega))]
      exact Or.inl ⟨rfl, fun z => by have := z.2.2.2; omega⟩
    · rw [if_neg (show ¬ nI (F + 24) < nI h from nI_nlt (by omega) (by omega))]
      by_cases c : bt (y.2 0 8) (h % 24) = true
      · rw [if_pos c, if_neg z10]
        exact Or.inr ⟨rfl, hl, c, by omega, by omega⟩
      · rw [if_neg c, if_pos rfl]
        exact Or.inl ⟨rfl, fun z => c z.2.1⟩
/-! the queue, by first hours -/
theorem qfI_s {p : Nat} (hp : p < 8) {g s : Nat → Nat} (gb : ∀ l, l ≤ p → g l < 2 ^ 30) (sb : ∀ i, i < p → s i < p) {k : Nat} : ∀ {x : kK} {j : Nat}, j + k = p → (∀ l, l ≤ p → (x.1 0).2.2 2 l = nI (g l)) → (∀ i, i < p - j → x.2.2.1 1 i = nI (s i)) → (∀ i, p - j ≤ i → i < p → x.2.2.1 1 (i + 1) = nI (s i) ∧ g p < g (s i)) →
    ∃ P, P ≤ p ∧ (qfI p k x j).2 = nI P ∧ (∀ i, i < P → (qfI p k x j).1.2.2.1 1 i = nI (s i)) ∧ (∀ i, P ≤ i → i < p → (qfI p k x j).1.2.2.1 1 (i + 1) = nI (s i) ∧ g p < g (s i)) ∧ (P = 0 ∨ g (s (P - 1)) ≤ g p) := by
  induction k with
  | zero =>
    intro x j hj hf h1 h2
    exact ⟨p - j, by omega, rfl, h1, h2, Or.inl (by omega)⟩
  | succ k ih =>
    intro x j hj hf h1 h2
    obtain ⟨m, hm⟩ : ∃ m, p - j = m + 1 := ⟨p - j - 1, by omega⟩
    have sm := sb m (by omega)
    rw [qfI, hm, nI_pred, nI_clamp (show m < 2 ^ 31 by omega), nI_clamp (show p < 2 ^ 31 by omega), nI_clamp (show m + 1 < 2 ^ 31 by omega), h1 m (by omega), nI_clamp (show s m < 2 ^ 31 by omega), hf (s m) (by omega), hf p (Nat.le_refl p)]
    by_cases c : g (s m) ≤ g p
    · rw [if_pos (nI_le c (by have := gb p (Nat.le_refl p); omega))]
      exact ⟨m + 1, by omega, rfl, fun i hi => h1 i (by omega), fun i a b => h2 i (by omega) b, Or.inr c⟩
    · rw [if_neg (nI_ge (by omega) (by have := gb (s m) (by omega); omega))]
      refine ih (by omega) hf (fun i hi => ?_) (fun i a b => ?_)
      · show upd (x.2.2.1 1) (m + 1) (nI (s m)) i = _
        rw [pk_un (by omega)]
        exact h1 i (by omega)
      · show upd (x.2.2.1 1) (m + 1) (nI (s m)) (i + 1) = _ ∧ _
        by_cases e : i = m
        · subst e
          rw [pk_us]
          exact ⟨rfl, by omega⟩
        · rw [pk_un (by omega)]
          exact h2 i (by omega) b
/-- the first j pleas stand in the queue, by g -/
def qI (g : Nat → Nat) (j : Nat) (s : Nat → Nat) (q : Nat → Int32) : Prop := (∀ i, i < j → q i = nI (s i) ∧ s i < j) ∧ (∀ l, l < j → ∃ i, i < j ∧ s i = l) ∧ ∀ i n, i < n → n < j → g (s i) ≤ g (s n) ∧ s i ≠ s n
theorem qfL_s {m : Nat} (hm : m ≤ 8) {g : Nat → Nat} (gb : ∀ l, l < m → g l < 2 ^ 30) {c : Int32} {k : Nat} : ∀ {x : kK} {j : Nat} {s : Nat → Nat}, j + k = m → (∀ l, l < m → (x.1 0).2.2 2 l = nI (g l)) → qI g j s (x.2.2.1 1) → ∃ s, qI g m s ((qfL c k x j).2.2.1 1) := by
  induction k with
  | zero =>
    intro x j s hj hf h
    have e : j = m := by omega
    subst e
    exact ⟨s, h⟩
  | succ k ih =>
    intro x j s hj hf h
    obtain ⟨h1, h2, h3⟩ := h
    obtain ⟨P, hP, e2, a1, a2, a3⟩ := qfI_s (p := j) (by omega) (g := g) (s := s) (fun l hl => gb l (by omega)) (fun i hi => (h1 i hi).2) (k := j) (x := x) (j := 0) (by omega) (fun l hl => hf l (by omega)) (fun i hi => (h1 i (by omega)).1) (fun i a b => by omega)
    rw [qfL, e2, nI_clamp (show P < 2 ^ 31 by omega)]
    have lo : ∀ i, i < P → g (s i) ≤ g j := by
      intro i hi
      rcases a3 with z | z
      · omega
      · by_cases e : i = P - 1
        · rw [e]; exact z
        · exact Nat.le_trans (h3 i (P - 1) (by omega) (by omega)).1 z
    refine ih (s := fun i => if i < P then s i else if i = P then j else s (i - 1)) (by omega) (fun l hl => ?_) ⟨fun i hi => ?_, fun l hl => ?_, fun i n hin hn => ?_⟩
    · show ((qfI j j x 0).1.1 0).2.2 2 l = _
      rw [qfI_core]
      exact hf l hl
    · show upd ((qfI j j x 0).1.2.2.1 1) P (nI j) i = nI (if i < P then s i else if i = P then j else s (i - 1)) ∧ (if i < P then s i else if i = P then j else s (i - 1)) < j + 1
      by_cases c1 : i < P
      · rw [if_pos c1, pk_un (by omega)]
        exact ⟨a1 i c1, by have := (h1 i (by omega)).2; omega⟩
      · by_cases c2 : i = P
        · rw [if_neg c1, if_pos c2, c2, pk_us]
          exact ⟨rfl, by omega⟩
        · obtain ⟨n, rfl⟩ : ∃ n, i = n + 1 := ⟨i - 1, by omega⟩
          rw [if_neg c1, if_neg c2, pk_un c2]
          exact ⟨(a2 n (by omega) (by omega)).1, by have := (h1 n (by omega)).2; rw [Nat.add_sub_cancel]; omega⟩
    · by_cases c : l = j
      · exact ⟨P, by omega, by show (if P < P then s P else if P = P then j else s (P - 1)) = l; rw [if_neg (Nat.lt_irrefl P), if_pos rfl, c]⟩
      · obtain ⟨i, hi, e⟩ := h2 l (by omega)
        by_cases c1 : i < P
        · exact ⟨i, by omega, by show (if i < P then s i else if i = P then j else s (i - 1)) = l; rw [if_pos c1, e]⟩
        · exact ⟨i + 1, by omega, by show (if i + 1 < P then s (i + 1) else if i + 1 = P then j else s (i + 1 - 1)) = l; rw [if_neg (by omega), if_neg (by omega), Nat.add_sub_cancel, e]⟩
    · show g (if i < P then s i else if i = P then j else s (i - 1)) ≤ g (if n < P then s n else if n = P then j else s (n - 1)) ∧ (if i < P then s i else if i = P then j else s (i - 1)) ≠ (if n < P then s n else if n = P then j else s (n - 1))
      by_cases c1 : i < P
      · rw [if_pos c1]
        by_cases d1 : n < P
        · rw [if_pos d1]
          exact h3 i n hin (by omega)
        · by_cases d2 : n = P
          · rw [if_neg d1, if_pos d2]
            exact ⟨lo i c1, by have := (h1 i (by omega)).2; omega⟩
          · rw [if_neg d1, if_neg d2]
            exact h3 i (n - 1) (by omega) (by omega)
      · by_cases c2 : i = P
        · rw [if_neg c1, if_pos c2, if_neg (show ¬ n < P by omega), if_neg (show ¬ n = P by omega)]
          have b1 := (a2 (n - 1) (by omega) (by omega)).2
          have b2 := (h1 (n - 1) (by omega)).2
          exact ⟨by omega, by omega⟩
        · rw [if_neg c1, if_neg c2, if_neg (show ¬ n < P by omega), if_neg (show ¬ n = P by omega)]
          exact h3 (i - 1) (n - 1) (by omega) (by omega)
/-! the hours, one by one -/
theorem mqI_s {m : Nat} (hm : m ≤ 8) {g s : Nat → Nat} (gb : ∀ l, l < m → g l < 2 ^ 28) {h : Nat} (hh : h < 2 ^ 29) (hf : ∀ l, l < m → (x.1 0).2.2 2 l = nI (g l)) (q : ∀ i, i < m → x.2.2.1 1 i = nI (s i) ∧ s i < m) {k : Nat} : ∀ {j : Nat}, j + k = m → ∃ f, j ≤ f ∧ f ≤ m ∧ mqI x (nI h) k j = nI f ∧ (∀ i, j ≤ i → i < f → g (s i) + 24 < h) ∧ (f < m → h ≤ g (s f) + 24) := by
  induction k with
  | zero => intro j hj; exact ⟨j, Nat.le_refl j, by omega, rfl, fun i a b => by omega, fun z => by omega⟩
  | succ k ih =>
    intro j hj
    have qj := q j (by omega)
    have gj := gb _ qj.2
    have lh : f_X3_lastHour x (x.2.2.1 1 (Int32.toNatClampNeg (nI j))) = nI (g (s j) + 24) := by
      unfold f_X3_lastHour
      rw [nI_clamp (show j < 2 ^ 31 by omega), qj.1, nI_clamp (by omega), hf _ qj.2]
      exact nI_add _ 24
    rw [mqI, lh]
    by_cases c : h ≤ g (s j) + 24
    · rw [if_pos (nI_le c (by omega))]
      exact ⟨j, Nat.le_refl j, by omega, rfl, fun i a b => by omega, fun _ => c⟩
    · rw [if_neg (nI_ge (by omega) (by omega))]
      obtain ⟨f, f1, f2, f3, f4, f5⟩ := ih (j := j + 1) (by omega)
      refine ⟨f, by omega, f2, f3, fun i a b => ?_, f5⟩
      by_cases e : i = j
      · subst e; omega
      · exact f4 i (by omega) b
/-- who stands in the queue from f on -/
def qS (s : Nat → Nat) (m f : Nat) (p : Nat) : Prop := ∃ i, f ≤ i ∧ i < m ∧ s i = p
theorem qS_s {s : Nat → Nat} {m f : Nat} {g : Nat → Nat} (hf : f < m) (h3 : ∀ i n, i < n → n < m → g (s i) ≤ g (s n) ∧ s i ≠ s n) (p : Nat) : (qS s m f p ∧ p ≠ s f) ↔ qS s m (f + 1) p := by
  constructor
  · rintro ⟨⟨i, a, b, e⟩, n⟩
    have : i ≠ f := fun z => n (by rw [← e, z])
    exact ⟨i, by omega, b, e⟩
  · rintro ⟨i, a, b, e⟩
    exact ⟨⟨i, by omega, b, e⟩, fun z => (h3 f i (by omega) b).2 (by rw [e, z])⟩
theorem qS_drop {A : Nat → Nat → Prop} {h k M m : Nat} {s g : Nat → Nat} (h3 : ∀ i n, i < n → n < m → g (s i) ≤ g (s n) ∧ s i ≠ s n) {d : Nat} : ∀ {f : Nat}, f + d ≤ m → (∀ i, f ≤ i → i < f + d → ∀ t, h ≤ t → ¬ A (s i) t) → Mx A h k (qS s m (f + d)) M → Mx A h k (qS s m f) M := by
  induction d with
  | zero => intro f _ _ a; exact a
  | succ d ih =>
    intro f hf no a
    refine Mx_drop (i := s f) (fun t a1 _ => no f (Nat.le_refl f) (by omega) t a1) ?_
    refine Mx_c (S := qS s m (f + 1)) (A := A) ?_ (fun p _ => (qS_s (g := g) (by omega) h3 p).symm) (fun _ _ _ _ _ _ => Iff.rfl)
    exact ih (f := f + 1) (by omega) (fun i a1 a2 => no i (by omega) (by omega)) (by rw [show f + 1 + d = f + (d + 1) by omega]; exact a)
theorem mqL_s (R : RJ hb t (x.1 0) (y.2 0)) (hh : hb < 2 ^ 27) {H : Nat} (hH : H < 2 ^ 28) (e4 : (x.1 0).2.1 4 = nI H) {s : Nat → Nat} (q : qI (hF (y.2 0)) (nL (y.2 0)) s (x.2.2.1 1)) (fb : ∀ l, l < nL (y.2 0) → hF (y.2 0) l < 2 ^ 28 ∧ (x.1 0).2.2 2 l = nI (hF (y.2 0) l)) {k : Nat} : ∀ {j e f : Nat}, j + k = 33 → f ≤ nL (y.2 0) → ∃ M, Mx (hA (y.2 0)) (H + j) k (qS s (nL (y.2 0)) f) M ∧ mqL x k j (nI e) (nI f) = nI (e + M) := by
  have m8 := R.nL8
  have e6 : (x.1 0).2.1 6 = nI (nL (y.2 0)) := by rw [R.n6]; exact R.eL
  obtain ⟨q1, q2, q3⟩ := q
  induction k with
  | zero => intro j e f _ _; exact ⟨0, Mx_z, rfl⟩
  | succ k ih =>
    intro j e f hj hf
    obtain ⟨f2, a1, a2, a3, a4, a5⟩ := mqI_s (x := x) m8 (fun l hl => (fb l hl).1) (h := H + j) (by omega) (fun l hl => (fb l hl).2) q1 (k := nL (y.2 0) - f) (j := f) (by omega)
    have dr : ∀ {M}, Mx (hA (y.2 0)) (H + j) (k + 1) (qS s (nL (y.2 0)) f2) M → Mx (hA (y.2 0)) (H + j) (k + 1) (qS s (nL (y.2 0)) f) M := by
      intro M a
      refine qS_drop q3 (d := f2 - f) (by omega) (fun i b1 b2 t b3 z => ?_) (by rw [show f + (f2 - f) = f2 by omega]; exact a)
      have := a4 i b1 (by omega)
      have := z.2.2.2
      omega
    rw [mqL, e6, e4, nI_add, nI_clamp (show nL (y.2 0) < 2 ^ 31 by omega), nI_clamp (show f < 2 ^ 31 by omega), a3]
    by_cases c : nL (y.2 0) ≤ f2
    · rw [if_pos (nI_le c (by omega))]
      obtain ⟨M, x1, x2⟩ := ih (j := j + 1) (e := e) (f := f2) (by omega) a2
      exact ⟨M, dr (Mx_skip (fun p _ hs _ => by obtain ⟨i, b1, b2, -⟩ := hs; omega) x1), x2⟩
    · have qf := q1 f2 (by omega)
      rw [if_neg (nI_ge (by omega) (by omega)), nI_clamp (show f2 < 2 ^ 31 by omega), qf.1]
      rcases cbh (y := y) R (by omega) qf.2 (h := H + j) (by omega) with ⟨e1, no⟩ | ⟨e1, yes⟩
      · rw [e1, if_pos rfl]
        obtain ⟨M, x1, x2⟩ := ih (j := j + 1) (e := e) (f := f2) (by omega) a2
        refine ⟨M, dr (Mx_skip (fun p _ hs ha => no ?_) x1), x2⟩
        obtain ⟨i, b1, b2, rfl⟩ := hs
        refine ⟨qf.2, ha.2.1, ?_, a5 (by omega)⟩
        by_cases z : i = f2
        · subst z; exact ha.2.2.1
        · have := (q3 f2 i (by omega) b2).1
          have := ha.2.2.1
          omega
      · rw [e1, if_neg z10, show nI e + Int32.ofInt 1 = nI (e + 1) from nI_1 e, show nI f2 + Int32.ofInt 1 = nI (f2 + 1) from nI_1 f2]
        obtain ⟨M, x1, x2⟩ := ih (j := j + 1) (e := e + 1) (f := f2 + 1) (by omega) (by omega)
        refine ⟨M + 1, dr (Mx_take (i := s f2) (by omega) ⟨f2, Nat.le_refl _, by omega, rfl⟩ yes (fun p t hp hs ha ht hqt => ?_) (Mx_c x1 (fun p _ => (qS_s (g := hF (y.2 0)) (by omega) q3 p).symm) (fun _ _ _ _ _ _ => Iff.rfl))), by rw [x2, show e + 1 + M = e + (M + 1) by omega]⟩
        obtain ⟨i, b1, b2, rfl⟩ := hs
        refine ⟨ha.1, hqt.2.1, by have := ha.2.2.1; omega, ?_⟩
        have c3 := hqt.2.2.2
        by_cases z : i = f2
        · subst z; exact c3
        · have := (q3 f2 i (by omega) b2).1
          omega
/-- what the reference counts -/
theorem mxY (R : RJ hb t (x.1 0) (y.2 0)) (hh : hb < 2 ^ 27) {M : Nat} (a : Mx (hA (y.2 0)) ((y.2 0 0).toNatClampNeg) 33 (fun p => p < nL (y.2 0)) M) : f_X12_mostHearings y = nI M := by
  have m8 := R.nL8
  have eB := isN_cl R.B.2.2.2.2.2.1 (by omega)
  have Fb : ∀ l, l < nL (y.2 0) → hF (y.2 0) l < 2 ^ 29 ∧ y.2 0 (92 + 3 * l + 1) = nI (hF (y.2 0) l) := by
    intro l hl
    have := isN_cl (R.E.1 l (by omega)).2.1 (by omega)
    exact ⟨by unfold hF; omega, this.1⟩
  obtain ⟨N, x1, x2⟩ := mhL_s (v := y.2 0) (H := (y.2 0 0).toNatClampNeg) (by omega) m8 Fb rfl (k := 49) (j := 0) (e := 0) (u := 0) (by omega)
  have all : Mx (hA (y.2 0)) ((y.2 0 0).toNatClampNeg + 0) 49 (hS 0) M := by
    refine Mx_more (k := 33) (j := 16) (fun p t _ _ h1 h2 => ?_) ?_
    · have h3 := (R.E.2 p h2.1).2.1
      have h4 := h2.2.2.2
      omega
    · refine Mx_r (T := fun p => p < nL (y.2 0)) (fun p hp _ => ?_) (fun p t _ _ h1 h2 => h1 h2.1) a
      have b0 : ∀ p, p < 8 → bt 0 p = false := by decide
      exact b0 p hp
  have e := Mx_u all x1
  subst e
  unfold f_X12_mostHearings
  show mhL (y.2 0) _ 49 0 0 (nI 0) = _
  rw [x2, Nat.zero_add]
theorem qS_0 {s : Nat → Nat} {m : Nat} {g : Nat → Nat} {q : Nat → Int32} (h : qI g m s q) (p : Nat) : qS s m 0 p ↔ p < m := by
  constructor
  · rintro ⟨i, -, b, rfl⟩
    exact (h.1 i b).2
  · intro hp
    obtain ⟨i, b, e⟩ := h.2.1 p hp
    exact ⟨i, Nat.zero_le i, b, e⟩
/-- rows of the plan alone -/
def kPl (x x2 : kK) : Prop := x2.1 = x.1 ∧ x2.2.1 = x.2.1 ∧ ∀ k, k = 5 ∨ k = 7 → x2.2.2.1 k = x.2.2.1 k
theorem kPl_r {x : kK} : kPl x x := ⟨rfl, rfl, fun _ _ => rfl⟩
theorem kPl_t {x x2 x3 : kK} (a : kPl x x2) (b : kPl x2 x3) : kPl x x3 := ⟨b.1.trans a.1, b.2.1.trans a.2.1, fun k h => (b.2.2 k h).trans (a.2.2 k h)⟩
theorem kPl_k {x : kK} {k : Nat} {f : Nat → Int32} (h : k ≠ 5 ∧ k ≠ 7) : kPl x (kkR x k f) := by
  refine ⟨rfl, rfl, fun j hj => ?_⟩
  show va_up x.2.2.1 k f j = x.2.2.1 j
  unfold va_up
  rw [if_neg (by omega)]
theorem qfI_pl2 {p k : Nat} : ∀ {x : kK} {j : Nat}, kPl x (qfI p k x j).1 := by
  induction k with
  | zero => intro x j; exact kPl_r
  | succ k ih =>
    intro x j
    rw [qfI]
    split
    · exact kPl_r
    · exact kPl_t (kPl_k ⟨by decide, by decide⟩) ih
theorem qfL_pl2 {c : Int32} {k : Nat} : ∀ {x : kK} {j : Nat}, kPl x (qfL c k x j) := by
  induction k with
  | zero => intro x j; exact kPl_r
  | succ k ih =>
    intro x j
    rw [qfL]
    exact kPl_t qfI_pl2 (kPl_t (kPl_k ⟨by decide, by decide⟩) ih)
theorem RX_pl (X : RX t x y) {x2 : kK} (h : kPl x x2) (hc : kChn x2) (z : Int32) : RX t x2 (yS y 0 z) :=
  RX_q X (Nat.le_refl _) h.1 (fun _ _ _ => by rw [h.2.1]) h.2.2 hc (fun k h0 _ _ => by rw [ys_1, pk_un h0]) (fun _ _ _ => rfl)
theorem q_mostHearings (X : RX t x y) (ht : t < 2 ^ 20) : RX t (g_X11_mostHearings x) (g_X12_mostHearings y) ∧ f_X11_mostHearings x = f_X12_mostHearings y ∧ (g_X12_mostHearings y).1 0 = 0 := by
  have R := X.R
  have m8 := R.nL8
  refine ⟨RX_pl X qfL_pl2 ((mh_co R.iv).2 X.O.2.1) 0, ?_, rfl⟩
  have kp : kPn x = nL (y.2 0) := by
    unfold kPn
    rw [R.n6]
  have eB := isN_cl R.B.2.2.2.2.2.1 (by omega)
  have Fb : ∀ l, l < nL (y.2 0) → hF (y.2 0) l < 2 ^ 28 ∧ (x.1 0).2.2 2 l = nI (hF (y.2 0) l) := by
    intro l hl
    have := isN_cl (R.E.1 l (by omega)).2.1 (by omega)
    exact ⟨by unfold hF; omega, (R.L l hl).2.1.trans this.1⟩
  obtain ⟨s, hs⟩ := qfL_s (c := (x.1 0).2.1 6) m8 (fun l hl => Nat.lt_trans (Fb l hl).1 (by decide)) (k := nL (y.2 0)) (x := x) (j := 0) (s := fun _ => 0) (by omega) (fun l hl => (Fb l hl).2) ⟨fun i hi => absurd hi (Nat.not_lt_zero i), fun i hi => absurd hi (Nat.not_lt_zero i), fun i n _ hn => absurd hn (Nat.not_lt_zero n)⟩
  unfold f_X11_mostHearings f_X5_mostByQueue
  rw [kp]
  have pl := qfL_pl2 (c := (x.1 0).2.1 6) (k := nL (y.2 0)) (x := x) (j := 0)
  revert hs pl
  generalize qfL ((x.1 0).2.1 6) (nL (y.2 0)) x 0 = x2
  intro hs pl
  have R2 : RJ (48 * t) t (x2.1 0) (y.2 0) := by rw [pl.1]; exact R
  obtain ⟨M, x1, x3⟩ := mqL_s (x := x2) R2 (by omega) (H := (y.2 0 0).toNatClampNeg) (by omega) (by rw [R2.n4]; exact eB.1) hs (fun l hl => ⟨(Fb l hl).1, by rw [pl.1]; exact (Fb l hl).2⟩) (k := 33) (j := 0) (e := 0) (f := 0) (by omega) (Nat.zero_le _)
  rw [mxY R (by omega) (Mx_c x1 (fun p _ => qS_0 hs p) (fun _ _ _ _ _ _ => Iff.rfl)), show (0 : Int32) = nI 0 from rfl, x3, Nat.zero_add]
end MQ
