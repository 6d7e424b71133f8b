/-! MOST HEARINGS: the reference's greedy is an optimal matching. -/
/-- plea l can be heard at hour h -/
def hA (v : Nat → Int32) (l h : Nat) : Prop := l < nL v ∧ bt (v 8) (h % 24) = true ∧ hF v l ≤ h ∧ h ≤ hF v l + 24
def hS (u : Int32) (l : Nat) : Prop := bt u l = false
section MST
variable {t hb : Nat} {v : Nat → Int32}
theorem sY_at {h : Nat} (hh : h < 2 ^ 30) : f_X12_sitsAt v (nI h) = if bt (v 8) (h % 24) = true then 1 else 0 := by
  unfold f_X12_sitsAt
  rw [rem24 hh, (sits_k (s := v 8) (k := h % 24) (by omega)).2]
  cases bt (v 8) (h % 24) <;> rfl
theorem us_at {u : Int32} {l : Nat} (hl : l < 32) : ((u >>> ((nI l : Int32) &&& 31)) &&& 1 = 1) ↔ bt u l = true := by
  rw [(sits_k (s := u) (k := l) hl).2]
  cases bt u l with
  | true => exact ⟨fun _ => rfl, fun _ => rfl⟩
  | false => exact ⟨fun z => absurd z (by decide), fun z => by cases z⟩
theorem mhI_s {u : Int32} {h m : Nat} (hh : h < 2 ^ 29) (hm : m ≤ 8) (F : ∀ l, l < m → hF v l < 2 ^ 29 ∧ v (92 + 3 * l + 1) = nI (hF v l)) (nm : nL v = m) {k : Nat} : ∀ {j : Nat} {i : Int32}, j + k = m → ((i = -1 ∧ ∀ l, l < j → hS u l → ¬ hA v l h) ∨ ∃ q, q < j ∧ i = nI q ∧ hS u q ∧ hA v q h ∧ ∀ l, l < j → hS u l → hA v l h → hF v q ≤ hF v l) →
    (mhI v u (nI h) k j i = -1 ∧ ∀ l, l < m → hS u l → ¬ hA v l h) ∨ ∃ q, q < m ∧ mhI v u (nI h) k j i = nI q ∧ hS u q ∧ hA v q h ∧ ∀ l, l < m → hS u l → hA v l h → hF v q ≤ hF v l := by
  induction k with
  | zero =>
    intro j i hj H
    have : j = m := by omega
    subst this
    exact H
  | succ k ih =>
    intro j i hj H
    have jm : j < m := by omega
    have un : ∀ l, l < m → f_X12_until v (nI l) = nI (hF v l + 24) := by
      intro l hl
      unfold f_X12_until
      rw [pl_1 (by omega), (F l hl).2]
      exact nI_add _ 24
    -- nothing new: plea j is used or cannot be heard
    have skip : ¬ (hS u j ∧ hA v j h) → (mhI v u (nI h) k (j + 1) i = -1 ∧ ∀ l, l < m → hS u l → ¬ hA v l h) ∨ ∃ q, q < m ∧ mhI v u (nI h) k (j + 1) i = nI q ∧ hS u q ∧ hA v q h ∧ ∀ l, l < m → hS u l → hA v l h → hF v q ≤ hF v l := by
      intro no
      refine ih (by omega) ?_
      rcases H with ⟨e, n⟩ | ⟨q, hq, e, s, a, mi⟩
      · refine Or.inl ⟨e, fun l hl hs ha => ?_⟩
        by_cases z : l = j
        · subst z; exact no ⟨hs, ha⟩
        · exact n l (by omega) hs ha
      · refine Or.inr ⟨q, by omega, e, s, a, fun l hl hs ha => ?_⟩
        by_cases z : l = j
        · subst z; exact absurd ⟨hs, ha⟩ no
        · exact mi l (by omega) hs ha
    rw [mhI, sY_at (by omega)]
    by_cases hs : bt (v 8) (h % 24) = true
    · rw [if_pos hs, if_neg z10]
      by_cases h1 : bt u j = true
      · rw [if_pos ((us_at (by omega)).2 h1)]
        exact skip (fun z => by have := z.1; unfold hS at this; rw [h1] at this; cases this)
      · have h1f : hS u j := by unfold hS; cases e : bt u j with | true => exact absurd e h1 | false => rfl
        rw [if_neg (fun z => h1 ((us_at (by omega)).1 z)), pl_1 (by omega), (F j jm).2, un j jm]
        have fb := (F j jm).1
        by_cases h2 : h < hF v j
        · rw [if_pos (nI_lt h2 (by omega))]
          exact skip (fun z => by have := z.2.2.2.1; omega)
        · rw [if_neg (show ¬ nI h < nI (hF v j) from nI_nlt (by omega) (by omega))]
          by_cases h3 : h ≤ hF v j + 24
          · rw [if_pos (nI_le h3 (by omega))]
            have aj : hA v j h := ⟨by rw [nm]; exact jm, hs, by omega, h3⟩
            rcases H with ⟨e, n⟩ | ⟨q, hq, e, s, a, mi⟩
            · rw [if_pos (show i < 0 by rw [e]; decide)]
              refine ih (by omega) (Or.inr ⟨j, by omega, rfl, h1f, aj, fun l hl hs2 ha => ?_⟩)
              by_cases z : l = j
              · subst z; exact Nat.le_refl _
              · exact absurd ha (n l (by omega) hs2)
            · have fq := (F q (by omega)).1
              rw [if_neg (show ¬ i < 0 by rw [e]; exact nI_pos (by omega)), e, un q (by omega)]
              by_cases h4 : hF v q ≤ hF v j
              · rw [if_pos (nI_le (by omega) (by omega))]
                refine ih (by omega) (Or.inr ⟨q, by omega, rfl, s, a, fun l hl hs2 ha => ?_⟩)
                by_cases z : l = j
                · subst z; exact h4
                · exact mi l (by omega) hs2 ha
              · rw [if_neg (nI_ge (by omega) (by omega))]
                refine ih (by omega) (Or.inr ⟨j, by omega, rfl, h1f, aj, fun l hl hs2 ha => ?_⟩)
                by_cases z : l = j
                · subst z; exact Nat.le_refl _
                · have := mi l (by omega) hs2 ha; omega
          · rw [if_neg (nI_ge (by omega) (by omega))]
            exact skip (fun z => h3 z.2.2.2.2)
    · rw [if_neg hs, if_pos rfl]
      rcases H with ⟨e, -⟩ | ⟨q, -, -, -, a, -⟩
      · exact Or.inl ⟨e, fun l _ _ ha => hs ha.2.1⟩
      · exact absurd a.2.1 hs
theorem bt_set {u : Int32} {i l : Nat} (hi : i < 32) (hl : l < 32) : bt (u ||| ((1 : Int32) <<< ((nI i : Int32) &&& 31))) l = (bt u l || decide (l = i)) := by
  have h1 : ∀ p, p < 32 → ∀ i, i < 32 → bt ((1 : Int32) <<< (nI p &&& 31)) i = decide (i = p) := by decide +kernel
  rw [b_or, h1 i hi l hl]
theorem mhL_s {H m : Nat} (hH : H < 2 ^ 28) (hm : m ≤ 8) (F : ∀ l, l < m → hF v l < 2 ^ 29 ∧ v (92 + 3 * l + 1) = nI (hF v l)) (nm : nL v = m) {k : Nat} : ∀ {j e : Nat} {u : Int32}, j + k = 49 → ∃ M, Mx (hA v) (H + j) k (hS u) M ∧ mhL v H k j u (nI e) = nI (e + M) := by
  induction k with
  | zero => intro j e u _; exact ⟨0, Mx_z, rfl⟩
  | succ k ih =>
    intro j e u hj
    have em : Int32.toNatClampNeg (v 7) = m := nm
    have sp := mhI_s (u := u) (h := H + j) (by omega) hm F nm (k := m) (j := 0) (i := -1) (by omega) (Or.inl ⟨rfl, fun l hl => absurd hl (Nat.not_lt_zero _)⟩)
    rw [mhL, em]
    rcases sp with ⟨e1, no⟩ | ⟨q, hq, e1, s, a, mi⟩
    · rw [e1, if_neg (show ¬ (0 : Int32) ≤ -1 by decide)]
      obtain ⟨M, x1, x2⟩ := ih (j := j + 1) (e := e) (u := u) (by omega)
      exact ⟨M, Mx_skip (fun p _ hs ha => no p (by have := ha.1; omega) hs ha) x1, x2⟩
    · rw [e1, if_pos (nI_pos' (by omega)), show nI e + Int32.ofInt 1 = nI (e + 1) from nI_1 e]
      obtain ⟨M, x1, x2⟩ := ih (j := j + 1) (e := e + 1) (u := u ||| ((1 : Int32) <<< ((nI q : Int32) &&& 31))) (by omega)
      refine ⟨M + 1, Mx_take (i := q) (by omega) s a (fun p t hp hs ha ht hqt => ⟨ha.1, hqt.2.1, by have := ha.2.2.1; omega, ?_⟩) (Mx_c x1 (fun p hp => ?_) (fun _ _ _ _ _ _ => Iff.rfl)), by rw [x2, show e + 1 + M = e + (M + 1) by omega]⟩
      · have := mi p (by have := ha.1; omega) hs ha
        have := hqt.2.2.2
        omega
      · unfold hS
        rw [bt_set (by omega) (by omega), Bool.or_eq_false_iff, decide_eq_false_iff_not]
end MST
