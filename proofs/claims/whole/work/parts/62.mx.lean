/-! HEARINGS AND HOURS: the most that can be heard, whoever counts. -/
def upF (f : Nat → Option Nat) (p : Nat) (v : Option Nat) : Nat → Option Nat := fun q => if q = p then v else f q
def szF (f : Nat → Option Nat) : Nat → Nat
  | 0 => 0
  | n + 1 => szF f n + (if (f n).isSome = true then 1 else 0)
theorem upF_s {f : Nat → Option Nat} {p : Nat} {v : Option Nat} : upF f p v p = v := if_pos rfl
theorem upF_n {f : Nat → Option Nat} {p q : Nat} {v : Option Nat} (h : q ≠ p) : upF f p v q = f q := if_neg h
theorem szF_c {f g : Nat → Option Nat} {n : Nat} (h : ∀ q, q < n → f q = g q) : szF f n = szF g n := by
  induction n with
  | zero => rfl
  | succ n ih => rw [szF, szF, ih (fun q hq => h q (by omega)), h n (by omega)]
theorem szF_0 {f : Nat → Option Nat} {n : Nat} (h : ∀ q, q < n → f q = none) : szF f n = 0 := by
  induction n with
  | zero => rfl
  | succ n ih => rw [szF, ih (fun q hq => h q (by omega)), h n (by omega)]; rfl
theorem szF_n {f : Nat → Option Nat} {p n : Nat} (hp : p < n) : szF (upF f p none) n + (if (f p).isSome = true then 1 else 0) = szF f n := by
  induction n with
  | zero => omega
  | succ n ih =>
    rw [szF, szF]
    by_cases e : p = n
    · subst e
      rw [szF_c (f := upF f p none) (g := f) (fun q hq => upF_n (by omega)), upF_s]
      rfl
    · have := ih (by omega)
      rw [upF_n (show n ≠ p by omega)]
      omega
theorem szF_s {f : Nat → Option Nat} {p n t : Nat} (hp : p < n) : szF (upF f p (some t)) n = szF (upF f p none) n + 1 := by
  have h1 := szF_n (f := upF f p (some t)) hp
  rw [upF_s] at h1
  rw [← h1, szF_c (f := upF (upF f p (some t)) p none) (g := upF f p none) (fun q _ => by unfold upF; by_cases e : q = p <;> simp [e])]
  rfl
def vF (A : Nat → Nat → Prop) (h k : Nat) (S : Nat → Prop) (f : Nat → Option Nat) : Prop :=
  (∀ p t, f p = some t → p < 8 ∧ S p ∧ h ≤ t ∧ t < h + k ∧ A p t) ∧ ∀ p q t, f p = some t → f q = some t → p = q
/-- of the pleas in S at most m can be heard in the k hours from h on, and m can -/
def Mx (A : Nat → Nat → Prop) (h k : Nat) (S : Nat → Prop) (m : Nat) : Prop := (∃ f, vF A h k S f ∧ szF f 8 = m) ∧ ∀ f, vF A h k S f → szF f 8 ≤ m
theorem Mx_u {A : Nat → Nat → Prop} {h k m m' : Nat} {S : Nat → Prop} (a : Mx A h k S m) (b : Mx A h k S m') : m = m' := by
  obtain ⟨⟨f, hf, e⟩, a2⟩ := a
  obtain ⟨⟨g, hg, e2⟩, b2⟩ := b
  have h1 := b2 f hf
  have h2 := a2 g hg
  omega
theorem Mx_z {A : Nat → Nat → Prop} {h : Nat} {S : Nat → Prop} : Mx A h 0 S 0 := by
  refine ⟨⟨fun _ => none, ⟨fun p t e => (by cases e), fun p q t e => (by cases e)⟩, szF_0 fun q _ => rfl⟩, fun f hf => ?_⟩
  rw [szF_0]
  · exact Nat.le_refl 0
  · intro q _
    cases e : f q with
    | none => rfl
    | some t =>
      have := hf.1 q t e
      omega
theorem Mx_c {A B : Nat → Nat → Prop} {h k m : Nat} {S T : Nat → Prop} (a : Mx A h k S m) (hS : ∀ p, p < 8 → (S p ↔ T p)) (hA : ∀ p t, p < 8 → S p → h ≤ t → t < h + k → (A p t ↔ B p t)) : Mx B h k T m := by
  have to : ∀ f, vF A h k S f ↔ vF B h k T f := by
    intro f
    refine ⟨fun q => ⟨fun p t e => ?_, q.2⟩, fun q => ⟨fun p t e => ?_, q.2⟩⟩
    · obtain ⟨h1, h2, h3, h4, h5⟩ := q.1 p t e
      exact ⟨h1, (hS p h1).1 h2, h3, h4, (hA p t h1 h2 h3 h4).1 h5⟩
    · obtain ⟨h1, h2, h3, h4, h5⟩ := q.1 p t e
      have h6 := (hS p h1).2 h2
      exact ⟨h1, h6, h3, h4, (hA p t h1 h6 h3 h4).2 h5⟩
  obtain ⟨⟨f, hf, e⟩, a2⟩ := a
  exact ⟨⟨f, (to f).1 hf, e⟩, fun g hg => a2 g ((to g).2 hg)⟩
/-- an hour in which nobody can be heard -/
theorem Mx_skip {A : Nat → Nat → Prop} {h k m : Nat} {S : Nat → Prop} (no : ∀ p, p < 8 → S p → ¬ A p h) (a : Mx A (h + 1) k S m) : Mx A h (k + 1) S m := by
  obtain ⟨⟨f, hf, e⟩, a2⟩ := a
  refine ⟨⟨f, ⟨fun p t q => ?_, hf.2⟩, e⟩, fun g hg => a2 g ⟨fun p t q => ?_, hg.2⟩⟩
  · obtain ⟨h1, h2, h3, h4, h5⟩ := hf.1 p t q
    exact ⟨h1, h2, by omega, by omega, h5⟩
  · obtain ⟨h1, h2, h3, h4, h5⟩ := hg.1 p t q
    have h6 : t ≠ h := fun z => no p h1 h2 (z ▸ h5)
    exact ⟨h1, h2, by omega, by omega, h5⟩
/-- hours behind the last one -/
theorem Mx_more {A : Nat → Nat → Prop} {h k j m : Nat} {S : Nat → Prop} (no : ∀ p t, p < 8 → S p → h + k ≤ t → ¬ A p t) (a : Mx A h k S m) : Mx A h (k + j) S m := by
  obtain ⟨⟨f, hf, e⟩, a2⟩ := a
  refine ⟨⟨f, ⟨fun p t q => ?_, hf.2⟩, e⟩, fun g hg => a2 g ⟨fun p t q => ?_, hg.2⟩⟩
  · obtain ⟨h1, h2, h3, h4, h5⟩ := hf.1 p t q
    exact ⟨h1, h2, h3, by omega, h5⟩
  · obtain ⟨h1, h2, h3, h4, h5⟩ := hg.1 p t q
    refine ⟨h1, h2, h3, ?_, h5⟩
    rcases Nat.lt_or_ge t (h + k) with z | z
    · exact z
    · exact absurd h5 (no p t h1 h2 z)
/-- one who can't be heard any more -/
theorem Mx_drop {A : Nat → Nat → Prop} {h k m i : Nat} {S : Nat → Prop} (no : ∀ t, h ≤ t → t < h + k → ¬ A i t) (a : Mx A h k (fun p => S p ∧ p ≠ i) m) : Mx A h k S m := by
  obtain ⟨⟨f, hf, e⟩, a2⟩ := a
  refine ⟨⟨f, ⟨fun p t q => ?_, hf.2⟩, e⟩, fun g hg => a2 g ⟨fun p t q => ?_, hg.2⟩⟩
  · obtain ⟨h1, h2, h3, h4, h5⟩ := hf.1 p t q
    exact ⟨h1, h2.1, h3, h4, h5⟩
  · obtain ⟨h1, h2, h3, h4, h5⟩ := hg.1 p t q
    exact ⟨h1, ⟨h2, fun z => no t h3 h4 (z ▸ h5)⟩, h3, h4, h5⟩
/-- who can wait least is heard -/
theorem Mx_take {A : Nat → Nat → Prop} {h k m i : Nat} {S : Nat → Prop} (hi : i < 8) (hS : S i) (hA : A i h) (ex : ∀ p t, p < 8 → S p → A p h → h < t → A i t → A p t) (a : Mx A (h + 1) k (fun p => S p ∧ p ≠ i) m) : Mx A h (k + 1) S (m + 1) := by
  obtain ⟨⟨f, hf, e⟩, a2⟩ := a
  constructor
  · have fi : f i = none := by
      cases z : f i with
      | none => rfl
      | some t => exact absurd rfl (hf.1 i t z).2.1.2
    have nh : ∀ p, f p ≠ some h := by
      intro p z
      have := (hf.1 p h z).2.2.1
      omega
    refine ⟨upF f i (some h), ⟨fun p t q => ?_, fun p q t e1 e2 => ?_⟩, ?_⟩
    · by_cases z : p = i
      · subst z
        rw [upF_s] at q
        cases q
        exact ⟨hi, hS, Nat.le_refl _, by omega, hA⟩
      · rw [upF_n z] at q
        obtain ⟨h1, h2, h3, h4, h5⟩ := hf.1 p t q
        exact ⟨h1, h2.1, by omega, by omega, h5⟩
    · by_cases z : p = i
      · by_cases z2 : q = i
        · rw [z, z2]
        · rw [z, upF_s] at e1
          cases e1
          rw [upF_n z2] at e2
          exact absurd e2 (nh q)
      · rw [upF_n z] at e1
        by_cases z2 : q = i
        · rw [z2, upF_s] at e2
          cases e2
          exact absurd e1 (nh p)
        · rw [upF_n z2] at e2
          exact hf.2 p q t e1 e2
    · have h1 := szF_n (f := f) hi
      rw [fi] at h1
      rw [szF_s hi]
      have h2 : szF (upF f i none) 8 + 0 = szF f 8 := h1
      omega
  · intro g hg
    -- who has the hour h
    by_cases hh : ∃ p, g p = some h
    · obtain ⟨p, hp⟩ := hh
      have p8 := (hg.1 p h hp).1
      have other : ∀ q t, q ≠ p → g q = some t → h + 1 ≤ t := by
        intro q t z e1
        have h1 := (hg.1 q t e1).2.2.1
        rcases Nat.lt_or_ge h t with z2 | z2
        · exact z2
        · have : t = h := by omega
          subst this
          exact absurd (hg.2 q p t e1 hp) z
      by_cases pi : p = i
      · subst pi
        have h1 := a2 (upF g p none) ⟨fun q t e1 => by
          by_cases z : q = p
          · rw [z, upF_s] at e1; cases e1
          · rw [upF_n z] at e1
            obtain ⟨h1, h2, h3, h4, h5⟩ := hg.1 q t e1
            have := other q t z e1
            exact ⟨h1, ⟨h2, z⟩, by omega, by omega, h5⟩, fun q r t e1 e2 => by
          by_cases z : q = p
          · rw [z, upF_s] at e1; cases e1
          · by_cases z2 : r = p
            · rw [z2, upF_s] at e2; cases e2
            · rw [upF_n z] at e1
              rw [upF_n z2] at e2
              exact hg.2 q r t e1 e2⟩
        have h2 := szF_n (f := g) p8
        rw [hp] at h2
        have h3 : szF (upF g p none) 8 + 1 = szF g 8 := h2
        omega
      · cases gi : g i with
        | none =>
          have h1 := a2 (upF g p none) ⟨fun q t e1 => by
            by_cases z : q = p
            · rw [z, upF_s] at e1; cases e1
            · rw [upF_n z] at e1
              obtain ⟨h1, h2, h3, h4, h5⟩ := hg.1 q t e1
              have := other q t z e1
              exact ⟨h1, ⟨h2, fun z2 => by rw [z2, gi] at e1; cases e1⟩, by omega, by omega, h5⟩, fun q r t e1 e2 => by
            by_cases z : q = p
            · rw [z, upF_s] at e1; cases e1
            · by_cases z2 : r = p
              · rw [z2, upF_s] at e2; cases e2
              · rw [upF_n z] at e1
                rw [upF_n z2] at e2
                exact hg.2 q r t e1 e2⟩
          have h2 := szF_n (f := g) p8
          rw [hp] at h2
          have h3 : szF (upF g p none) 8 + 1 = szF g 8 := h2
          omega
        | some s =>
          have hs := other i s (fun z => pi z.symm) gi
          have h1 := a2 (upF (upF g i none) p (some s)) ⟨fun q t e1 => by
            by_cases z : q = p
            · rw [z, upF_s] at e1
              cases e1
              obtain ⟨h1, h2, h3, h4, h5⟩ := hg.1 p h hp
              obtain ⟨k1, k2, k3, k4, k5⟩ := hg.1 i s gi
              rw [z]
              exact ⟨p8, ⟨h2, pi⟩, hs, by omega, ex p s p8 h2 h5 (by omega) k5⟩
            · rw [upF_n z] at e1
              by_cases z2 : q = i
              · rw [z2, upF_s] at e1; cases e1
              · rw [upF_n z2] at e1
                obtain ⟨h1, h2, h3, h4, h5⟩ := hg.1 q t e1
                have := other q t z e1
                exact ⟨h1, ⟨h2, z2⟩, by omega, by omega, h5⟩, fun q r t e1 e2 => by
            have free : ∀ q, q ≠ p → upF (upF g i none) p (some s) q ≠ some s := by
              intro q z e1
              rw [upF_n z] at e1
              by_cases z2 : q = i
              · rw [z2, upF_s] at e1; cases e1
              · rw [upF_n z2] at e1
                exact z2 (hg.2 q i s e1 gi)
            by_cases z : q = p
            · rw [z, upF_s] at e1
              cases e1
              by_cases z2 : r = p
              · rw [z, z2]
              · exact absurd e2 (free r z2)
            · by_cases z2 : r = p
              · rw [z2, upF_s] at e2
                cases e2
                exact absurd e1 (free q z)
              · rw [upF_n z] at e1
                rw [upF_n z2] at e2
                by_cases z3 : q = i
                · rw [z3, upF_s] at e1; cases e1
                · by_cases z4 : r = i
                  · rw [z4, upF_s] at e2; cases e2
                  · rw [upF_n z3] at e1
                    rw [upF_n z4] at e2
                    exact hg.2 q r t e1 e2⟩
          have h2 := szF_n (f := g) hi
          rw [gi] at h2
          have h3 : szF (upF g i none) 8 + 1 = szF g 8 := h2
          have h4 := szF_n (f := upF g i none) p8
          rw [upF_n pi, hp] at h4
          have h5 : szF (upF (upF g i none) p none) 8 + 1 = szF (upF g i none) 8 := h4
          rw [szF_s p8] at h1
          omega
    · have h1 := a2 (upF g i none) ⟨fun q t e1 => by
        by_cases z : q = i
        · rw [z, upF_s] at e1; cases e1
        · rw [upF_n z] at e1
          obtain ⟨h1, h2, h3, h4, h5⟩ := hg.1 q t e1
          have h6 : t ≠ h := fun z2 => hh ⟨q, z2 ▸ e1⟩
          exact ⟨h1, ⟨h2, z⟩, by omega, by omega, h5⟩, fun q r t e1 e2 => by
        by_cases z : q = i
        · rw [z, upF_s] at e1; cases e1
        · by_cases z2 : r = i
          · rw [z2, upF_s] at e2; cases e2
          · rw [upF_n z] at e1
            rw [upF_n z2] at e2
            exact hg.2 q r t e1 e2⟩
      have h2 := szF_n (f := g) hi
      have h3 : (if (g i).isSome = true then 1 else 0) ≤ 1 := by split <;> omega
      omega
/-- fewer, where they go into others -/
theorem szF_le {f : Nat → Option Nat} {m n : Nat} {g : Nat → Option Nat} (w : Nat → Nat) (hw : ∀ p, p < n → (g p).isSome = true → w p < m ∧ (f (w p)).isSome = true) (hi : ∀ p q, p < n → q < n → (g p).isSome = true → (g q).isSome = true → w p = w q → p = q) : szF g n ≤ szF f m := by
  induction n generalizing f with
  | zero => exact Nat.zero_le _
  | succ n ih =>
    rw [szF]
    by_cases e : (g n).isSome = true
    · rw [if_pos e]
      have h1 := hw n (by omega) e
      have h2 := szF_n (f := f) h1.1
      rw [if_pos h1.2] at h2
      have h3 := ih (f := upF f (w n) none) (fun p hp e1 => by
        have h4 := hw p (by omega) e1
        have h5 : w p ≠ w n := fun z => by
          have := hi p n (by omega) (by omega) e1 e z
          omega
        rw [upF_n h5]
        exact h4) (fun p q hp hq => hi p q (by omega) (by omega))
      omega
    · rw [if_neg e]
      have := ih (f := f) (fun p hp => hw p (by omega)) (fun p q hp hq => hi p q (by omega) (by omega))
      omega
/-- no chain is left: hours that are all taken, by pleas that have no other hours -/
theorem Mx_full {A : Nat → Nat → Prop} {h k : Nat} {S : Nat → Prop} {f : Nat → Option Nat} (hf : vF A h k S f) (T : Nat → Prop) (un : ∀ p t, p < 8 → S p → f p = none → h ≤ t → t < h + k → A p t → T t) (cl : ∀ p t u, f p = some u → T u → h ≤ t → t < h + k → A p t → T t) (tk : ∀ t, T t → ∃ p, f p = some t) : Mx A h k S (szF f 8) := by
  refine ⟨⟨f, hf, rfl⟩, fun g hg => ?_⟩
  have hc : ∀ p, ∃ w, (g p).isSome = true → w < 8 ∧ (f w).isSome = true ∧ (((∃ u, f p = some u ∧ ¬ T u) ∧ w = p) ∨ ((f p = none ∨ ∃ u, f p = some u ∧ T u) ∧ f w = g p ∧ ∃ t, g p = some t ∧ T t)) := by
    intro p
    cases gp : g p with
    | none => exact ⟨0, fun z => by cases z⟩
    | some t =>
      obtain ⟨h1, h2, h3, h4, h5⟩ := hg.1 p t gp
      have inT : (f p = none ∨ ∃ u, f p = some u ∧ T u) → ∃ w, w < 8 ∧ (f w).isSome = true ∧ (((∃ u, f p = some u ∧ ¬ T u) ∧ w = p) ∨ ((f p = none ∨ ∃ u, f p = some u ∧ T u) ∧ f w = some t ∧ ∃ t', some t = some t' ∧ T t')) := by
        intro hR
        have ht : T t := by
          rcases hR with z | ⟨u, z, hu⟩
          · exact un p t h1 h2 z h3 h4 h5
          · exact cl p t u z hu h3 h4 h5
        obtain ⟨w, hw⟩ := tk t ht
        refine ⟨w, (hf.1 w t hw).1, by rw [hw]; rfl, Or.inr ⟨hR, hw, t, rfl, ht⟩⟩
      cases fp : f p with
      | none =>
        obtain ⟨w, hw⟩ := inT (Or.inl fp)
        rw [fp] at hw
        exact ⟨w, fun _ => hw⟩
      | some u =>
        by_cases hu : T u
        · obtain ⟨w, hw⟩ := inT (Or.inr ⟨u, fp, hu⟩)
          rw [fp] at hw
          exact ⟨w, fun _ => hw⟩
        · exact ⟨p, fun _ => ⟨h1, by rw [fp]; rfl, Or.inl ⟨⟨u, rfl, hu⟩, rfl⟩⟩⟩
  obtain ⟨w, hw⟩ := Classical.axiomOfChoice hc
  refine szF_le w (fun p _ e => ⟨(hw p e).1, (hw p e).2.1⟩) (fun p q _ _ e1 e2 e => ?_)
  obtain ⟨_, _, h1⟩ := hw p e1
  obtain ⟨_, _, h2⟩ := hw q e2
  rcases h1 with ⟨⟨u, a1, a2⟩, a3⟩ | ⟨a1, a2, t, a3, a4⟩
  · rcases h2 with ⟨_, b3⟩ | ⟨b1, b2, t, b3, b4⟩
    · rw [← a3, ← b3, e]
    · rw [← e, a3, a1, b3] at b2
      cases b2
      exact absurd b4 a2
  · rcases h2 with ⟨⟨u, b1, b2⟩, b3⟩ | ⟨b1, b2, t2, b3, b4⟩
    · rw [e, b3, b1, a3] at a2
      cases a2
      exact absurd a4 b2
    · rw [e, b2, b3] at a2
      rw [a3] at a2
      have e3 := Option.some.inj a2
      rw [e3] at b3
      exact hg.2 p q t a3 b3
