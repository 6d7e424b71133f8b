/-! A COMMAND TEXT, read and carried out, both sides. -/
theorem cpK_b {T : Nat → Int32} {L w q e : Nat} {a b c : Int32} (h : cpK (sgT T L) w q = .inl (a, b, c, e)) : q + 1 ≤ e ∧ e ≤ L := by
  have fin : ∀ {a2 b2 c2 : Int32} {e2 : Nat}, (Sum.inl (a2, b2, c2, e2) : (Int32 × Int32 × Int32 × Nat) ⊕ Nat) = .inl (a, b, c, e) → e2 = e := fun z => congrArg (fun o : Int32 × Int32 × Int32 × Nat => o.2.2.2) (Sum.inl.inj z)
  unfold cpK at h
  by_cases d : dgB (sgT T L q) = true
  · rw [if_pos d] at h
    have i0 := dg_in d
    by_cases w8 : w = 8
    · rw [if_pos w8] at h
      have := fin h
      omega
    · rw [if_neg w8] at h
      by_cases w7 : w = 7 ∨ w = 9
      · rw [if_pos w7] at h
        by_cases d2 : dgB (sgT T L (q + 1)) = true
        · rw [if_pos d2] at h
          have := fin h
          have := dg_in d2
          omega
        · rw [if_neg d2] at h
          have := fin h
          omega
      · rw [if_neg w7] at h
        by_cases w4 : w = 4
        · rw [if_pos w4] at h
          by_cases s : sgT T L (q + 1) = 64
          · rw [if_pos s] at h
            by_cases d2 : dgB (sgT T L (q + 2)) = true
            · rw [if_pos d2] at h
              by_cases d3 : dgB (sgT T L (q + 3)) = true
              · rw [if_pos d3] at h
                have := fin h
                have := dg_in d3
                omega
              · rw [if_neg d3] at h; cases h
            · rw [if_neg d2] at h; cases h
          · rw [if_neg s] at h; cases h
        · rw [if_neg w4] at h
          by_cases w6 : w = 6
          · rw [if_pos w6] at h
            by_cases s : sgT T L (q + 1) = 35
            · rw [if_pos s] at h
              by_cases d2 : dgB (sgT T L (q + 2)) = true
              · rw [if_pos d2] at h
                have := dg_in d2
                by_cases d3 : dgB (sgT T L (q + 3)) = true
                · rw [if_pos d3] at h
                  have := fin h
                  have := dg_in d3
                  omega
                · rw [if_neg d3] at h
                  have := fin h
                  omega
              · rw [if_neg d2] at h; cases h
            · rw [if_neg s] at h; cases h
          · rw [if_neg w6] at h
            by_cases d2 : dgB (sgT T L (q + 1)) = true
            · rw [if_pos d2] at h
              have := fin h
              have := dg_in d2
              omega
            · rw [if_neg d2] at h; cases h
  · rw [if_neg d] at h; cases h
theorem cpK_e {T : Nat → Int32} {L w q e : Nat} (hq : q ≤ L) (h : cpK (sgT T L) w q = .inr e) : e ≤ L := by
  have fin : ∀ {e2 : Nat}, (Sum.inr e2 : (Int32 × Int32 × Int32 × Nat) ⊕ Nat) = .inr e → e2 = e := fun z => Sum.inr.inj z
  have in35 : ∀ {p : Nat} {c : Int32}, sgT T L p = c → ¬ c = -1 → p < L := by
    intro p c h1 h2
    by_cases z : p < L
    · exact z
    · rw [sgT_0 z] at h1
      exact absurd h1.symm h2
  unfold cpK at h
  by_cases d : dgB (sgT T L q) = true
  · rw [if_pos d] at h
    have i0 := dg_in d
    by_cases w8 : w = 8
    · rw [if_pos w8] at h; cases h
    · rw [if_neg w8] at h
      by_cases w7 : w = 7 ∨ w = 9
      · rw [if_pos w7] at h
        split at h <;> cases h
      · rw [if_neg w7] at h
        by_cases w4 : w = 4
        · rw [if_pos w4] at h
          by_cases s : sgT T L (q + 1) = 64
          · rw [if_pos s] at h
            have := in35 s (by decide)
            by_cases d2 : dgB (sgT T L (q + 2)) = true
            · rw [if_pos d2] at h
              have := dg_in d2
              by_cases d3 : dgB (sgT T L (q + 3)) = true
              · rw [if_pos d3] at h; cases h
              · rw [if_neg d3] at h
                have := fin h
                omega
            · rw [if_neg d2] at h
              have := fin h
              omega
          · rw [if_neg s] at h
            have := fin h
            omega
        · rw [if_neg w4] at h
          by_cases w6 : w = 6
          · rw [if_pos w6] at h
            by_cases s : sgT T L (q + 1) = 35
            · rw [if_pos s] at h
              have := in35 s (by decide)
              by_cases d2 : dgB (sgT T L (q + 2)) = true
              · rw [if_pos d2] at h
                split at h <;> cases h
              · rw [if_neg d2] at h
                have := fin h
                omega
            · rw [if_neg s] at h
              have := fin h
              omega
          · rw [if_neg w6] at h
            by_cases d2 : dgB (sgT T L (q + 1)) = true
            · rw [if_pos d2] at h; cases h
            · rw [if_neg d2] at h
              have := fin h
              omega
  · rw [if_neg d] at h
    have := fin h
    omega
/-- one command that reads well from q to e -/
def oC (T : Nat → Int32) (L q w : Nat) (a b c : Int32) (e : Nat) : Prop := w < 10 ∧ ∃ n, kwP (fun j => sgT T L (q + j)) (some w) n ∧ cpK (sgT T L) w (q + n) = .inl (a, b, c, e)
/-- one command that doesn't -/
def eC (T : Nat → Int32) (L q e : Nat) : Prop := (∃ n, kwP (fun j => sgT T L (q + j)) none n ∧ e = q + n) ∨ ∃ w n, w < 10 ∧ kwP (fun j => sgT T L (q + j)) (some w) n ∧ cpK (sgT T L) w (q + n) = .inr e
theorem oC_b {T : Nat → Int32} {L q w e : Nat} {a b c : Int32} (h : oC T L q w a b c e) : q + 5 ≤ e ∧ e ≤ L := by
  obtain ⟨hw, n, k, o⟩ := h
  have h1 := cpK_b o
  have h2 := ln_7 w hw
  rcases k with ⟨v, -, e1, -, rfl⟩ | ⟨e1, -⟩
  · cases e1
    omega
  · cases e1
theorem eC_b {T : Nat → Int32} {L q e : Nat} (hq : q ≤ L) (h : eC T L q e) : e ≤ L := by
  rcases h with ⟨n, k, rfl⟩ | ⟨w, n, hw, k, o⟩
  · exact kwP_in hq k
  · exact cpK_e (kwP_in hq k) o
/-- what stands in place i of the commands read -/
def stO (x : kK) (i w : Nat) (a b c : Int32) : Prop := x.2.2.2 i = some (1010 + w) ∧ x.2.2.1 6 (3 * i) = a ∧ (w < 7 → x.2.2.1 6 (3 * i + 1) = b) ∧ (w = 4 → x.2.2.1 6 (3 * i + 2) = c)
/-- the text from q on: m + 1 commands, kept from place i on -/
def pL (T : Nat → Int32) (L : Nat) (x : kK) : Nat → Nat → Nat → Prop
  | 0, i, q => ∃ w a b c, oC T L q w a b c L ∧ stO x i w a b c
  | m + 1, i, q => ∃ w a b c e, oC T L q w a b c e ∧ stO x i w a b c ∧ e < L ∧ sgT T L e = 59 ∧ pL T L x m (i + 1) (e + 1)
/-- the text from q on: m commands, and an error at e -/
def pE (T : Nat → Int32) (L : Nat) : Nat → Nat → Nat → Prop
  | 0, q, e => eC T L q e ∨ ∃ w a b c, oC T L q w a b c e ∧ e < L ∧ sgT T L e ≠ 59
  | m + 1, q, e => ∃ w a b c e1, oC T L q w a b c e1 ∧ e1 < L ∧ sgT T L e1 = 59 ∧ pE T L m (e1 + 1) e
theorem pE_b {T : Nat → Int32} {L e : Nat} {m : Nat} : ∀ {q : Nat}, q ≤ L → pE T L m q e → e ≤ L := by
  induction m with
  | zero =>
    intro q hq h
    rcases h with h | ⟨w, a, b, c, h, h2, -⟩
    · exact eC_b hq h
    · omega
  | succ m ih =>
    intro q hq h
    obtain ⟨w, a, b, c, e1, h1, h2, -, h4⟩ := h
    exact ih (by omega) h4
/-! the class reads -/
section RDX
variable {T : Nat → Int32} {L : Nat}
theorem rc_o {x : kK} {q : Nat} (h : tX T L q x) (hL : L ≤ 60) (hq : q ≤ L) {i : Nat} (hi : i < 10) : (f_X2_readCommand x (nI i) = 0 ∧ ∃ e, (g_X2_readCommand x (nI i)).2.1 5 = nI e ∧ eC T L q e) ∨ (f_X2_readCommand x (nI i) = 1 ∧ ∃ w a b c e, oC T L q w a b c e ∧ (g_X2_readCommand x (nI i)).2.1 5 = nI e ∧ stO (g_X2_readCommand x (nI i)) i w a b c ∧ (∀ j, j < i → (g_X2_readCommand x (nI i)).2.2.2 j = x.2.2.2 j) ∧ ∀ p, p < 3 * i → (g_X2_readCommand x (nI i)).2.2.1 6 p = x.2.2.1 6 p) := by
  obtain ⟨r, n, k, ⟨rfl, e1, e2⟩ | ⟨w, hw, rfl, e1, x1, e2, e3⟩⟩ := rcm_s h hL hq hi
  · exact Or.inl ⟨e1, q + n, e2, Or.inl ⟨n, k, rfl⟩⟩
  · revert e3
    cases o : cpK (sgT T L) w (q + n) with
    | inl z =>
      rintro ⟨z1, f, c, f1, f2, f3, f4⟩
      obtain ⟨a, b, d, e⟩ := z
      refine Or.inr ⟨z1, w, a, b, d, e, ⟨hw, n, k, o⟩, c.2.2.1, ⟨(e1 i).trans (if_pos rfl), (c.2.2.2.2.1 _).trans f1, fun z => (c.2.2.2.2.1 _).trans (f2 z), fun z => (c.2.2.2.2.1 _).trans (f3 z)⟩, fun j hj => (e1 j).trans (if_neg (by omega)), fun p hp => ?_⟩
      rw [← e2]
      exact (c.2.2.2.2.1 p).trans (f4 p hp)
    | inr e =>
      rintro ⟨z1, z2⟩
      exact Or.inl ⟨z1, e, z2, Or.inr ⟨w, n, hw, k, o⟩⟩
theorem rcL_s (hL : L ≤ 60) {k : Nat} : ∀ {x : kK} {i q : Nat}, i + k = 11 → 6 * i ≤ q → q ≤ L → tX T L q x → ∃ z v, rcL k x i = .inl (z, v) ∧ ((v = 0 ∧ ∃ m e, z.2.1 5 = nI e ∧ pE T L m q e ∧ m ≤ 10 - i) ∨ (v = 1 ∧ ∃ m, z.2.1 6 = nI (i + m + 1) ∧ pL T L z m i q ∧ i + m < 10 ∧ (∀ j, j < i → z.2.2.2 j = x.2.2.2 j) ∧ ∀ p, p < 3 * i → z.2.2.1 6 p = x.2.2.1 6 p)) := by
  induction k with
  | zero => intro x i q hi h6 hq _; omega
  | succ k ih =>
    intro x i q hi h6 hq h
    by_cases i10 : i < 10
    · have ha : kAt x := ⟨L, q, hL, hq, h.1, h.2.1⟩
      have fr := rc_ok (i := i) ha (by omega)
      rw [rcL]
      rcases rc_o h hL hq i10 with ⟨e1, e, e2, e3⟩ | ⟨e1, w, a, b, c, e, o, e2, st, s1, s2⟩
      · rw [if_pos e1]
        exact ⟨_, _, rfl, Or.inl ⟨rfl, 0, e, e2, Or.inl e3, Nat.zero_le _⟩⟩
      · have ob := oC_b o
        have e4 : (g_X2_readCommand x (nI i)).2.1 4 = nI L := (fr.2.2.1 4 (by decide)).trans h.1
        rw [e1, if_neg z10, e2, e4, show nI i + 1 = nI (i + 1) from nI_1 i]
        by_cases c1 : e = L
        · rw [if_pos (by rw [c1])]
          refine ⟨_, _, rfl, Or.inr ⟨rfl, 0, ?_, ⟨w, a, b, c, ?_, st⟩, by omega, s1, s2⟩⟩
          · show upd (g_X2_readCommand x (nI i)).2.1 6 (nI (i + 1)) 6 = _
            rw [pk_us]
          · rw [c1] at o; exact o
        · rw [if_neg (fun z => c1 ((nI_eq (by omega) (by omega)).1 z))]
          have h5 : ∀ j, j < L → (g_X2_readCommand x (nI i)).2.2.1 5 j = T j := fun j hj => by rw [fr.2.2.2.1 5 (by decide)]; exact h.2.2 j hj
          have r5 : (kkS (g_X2_readCommand x (nI i)) 6 (nI (i + 1))).2.1 5 = nI e := e2
          have r4 : (kkS (g_X2_readCommand x (nI i)) 6 (nI (i + 1))).2.1 4 = nI L := e4
          unfold f_X2_readSign g_X2_readSign
          have g1 : ¬ nI L ≤ nI e := nI_ge (by omega) (by omega)
          rw [r5, r4, if_neg g1, if_neg g1, nI_clamp (show e < 2 ^ 31 by omega), show (kkS (g_X2_readCommand x (nI i)) 6 (nI (i + 1))).2.2.1 5 e = T e from h5 e (by omega), ← sgT_1 (T := T) (show e < L by omega)]
          by_cases c2 : sgT T L e = 59
          · rw [if_pos c2, if_pos c2, if_neg z10, show nI e + 1 = nI (e + 1) from nI_1 e]
            obtain ⟨z, v, z1, z2⟩ := ih (x := kkS (kkS (g_X2_readCommand x (nI i)) 6 (nI (i + 1))) 5 (nI (e + 1))) (i := i + 1) (q := e + 1) (by omega) (by omega) (by omega) ⟨e4, rfl, h5⟩
            refine ⟨z, v, z1, ?_⟩
            rcases z2 with ⟨v0, m, e9, y1, y2, y3⟩ | ⟨v1, m, y1, y2, y3, y4, y5⟩
            · exact Or.inl ⟨v0, m + 1, e9, y1, ⟨w, a, b, c, e, o, by omega, c2, y2⟩, by omega⟩
            · have k4 : ∀ j, j < i + 1 → z.2.2.2 j = (g_X2_readCommand x (nI i)).2.2.2 j := y4
              have k5 : ∀ p, p < 3 * (i + 1) → z.2.2.1 6 p = (g_X2_readCommand x (nI i)).2.2.1 6 p := y5
              refine Or.inr ⟨v1, m + 1, by rw [y1]; congr 1; omega, ⟨w, a, b, c, e, o, ⟨(k4 i (by omega)).trans st.1, (k5 _ (by omega)).trans st.2.1, fun z => (k5 _ (by omega)).trans (st.2.2.1 z), fun z => (k5 _ (by omega)).trans (st.2.2.2 z)⟩, by omega, c2, y2⟩, by omega, fun j hj => (k4 j (by omega)).trans (s1 j hj), fun p hp => (k5 p (by omega)).trans (s2 p hp)⟩
          · rw [if_neg c2, if_neg c2, if_pos rfl]
            exact ⟨_, _, rfl, Or.inl ⟨rfl, 0, e, r5, Or.inr ⟨w, a, b, c, o, by omega, c2⟩, Nat.zero_le _⟩⟩
    · -- the tenth semicolon is the sixtieth sign
      have iq : i = 10 := by omega
      have qL : q = L := by omega
      have ha : kAt x := ⟨L, q, hL, hq, h.1, h.2.1⟩
      rw [rcL]
      obtain ⟨r, n, k1, k2, k3⟩ := rk_s h hL hq
      have hn := kwP_in hq k1
      have n0 : n = 0 := by omega
      have rn : r = none := by
        rcases k1 with ⟨w, hw, -, -, e2⟩ | ⟨e, -⟩
        · have := ln_7 w hw
          omega
        · exact e
      subst rn
      subst n0
      have e1 : f_X2_readCommand x (nI i) = 0 := by unfold f_X2_readCommand; rw [k2]; rfl
      have e2 : (g_X2_readCommand x (nI i)).2.1 5 = nI q := by unfold g_X2_readCommand; rw [k2, k3]; rfl
      rw [if_pos e1]
      exact ⟨_, _, rfl, Or.inl ⟨rfl, 0, q, e2, Or.inl (Or.inl ⟨0, k1, rfl⟩), Nat.zero_le _⟩⟩
end RDX
/-! the reference reads -/
section RDY
variable {T : Nat → Int32} {L : Nat}
theorem cmL_0 {y : kY} {k j : Nat} {n : Int32} (h : ¬ y.1 13 = 0 ∨ ¬ y.1 0 = 0 ∨ y.1 11 ≤ y.1 10) : cmL k y j n = (y, n) := by
  cases k with
  | zero => rw [cmL, ite_self, ite_self]
  | succ k =>
    rw [cmL]
    rcases h with h | h | h
    · rw [if_neg h]
    · rw [if_neg h, ite_self]
    · rw [if_pos h, ite_self, ite_self]
theorem okC_0 {y : kY} {k : Nat} (h : ¬ y.1 13 = 0 ∨ ¬ y.1 0 = 0 ∨ y.1 11 ≤ y.1 10) : okC k y := by
  cases k with
  | zero =>
    intro h1 h2
    rcases h with h | h | h
    · exact absurd h1 h
    · exact absurd h2 h
    · exact h
  | succ k =>
    intro h1 h2 h3
    rcases h with h | h | h
    · exact absurd h1 h
    · exact absurd h2 h
    · exact absurd h h3
theorem cmL_1 {y : kY} {k j : Nat} {n : Int32} (h1 : y.1 13 = 0) (h2 : y.1 0 = 0) (h3 : ¬ y.1 11 ≤ y.1 10) : cmL (k + 1) y j n = cmL k (bodC y) (j + 1) (n + Int32.ofInt 1) := by
  rw [cmL, if_pos h1, if_pos h2, if_neg h3]
  unfold bodC
  split <;> rfl
theorem ok_of {y : kY} {q : Nat} (h : tY T L q y) (hL : L ≤ 60) (hq : q ≤ L) (hb : kB01 (y.1 13)) (hW : kWo y) (hv : kMv (y.2 0)) (hm : kRm1 (y.2 0)) : kOk y := ⟨⟨L, q, hL, hq, h.1, h.2.1⟩, hb, hW, hv, hm⟩
theorem wo_y {y y2 : kY} (h : kWo y) (e : ∀ r, r ≠ 8 → y2.2 r = y.2 r) : kWo y2 := wo_r h e
/-- one command, as the class has read it -/
theorem cm_o {y : kY} {q w e : Nat} {a b c : Int32} (hW : kWo y) (h : tY T L q y) (hL : L ≤ 60) (hq : q ≤ L) (h13 : y.1 13 = 0) (o : oC T L q w a b c e) : ∃ y2, yP y y2 e 0 ∧ g_X12_command y = if y.1 14 = 0 then y2 else g_does w y2 a b c := by
  obtain ⟨hw, n, k, o⟩ := o
  obtain ⟨r, n2, k2, z⟩ := cm_s hW h hL hq h13
  obtain ⟨rfl, rfl⟩ := kwP_u k k2
  rcases z with ⟨z, -⟩ | ⟨v, -, z, p⟩
  · cases z
  · cases z
    rw [o] at p
    exact p
theorem cm_e {y : kY} {q e : Nat} (hW : kWo y) (h : tY T L q y) (hL : L ≤ 60) (hq : q ≤ L) (h13 : y.1 13 = 0) (o : eC T L q e) : yP y (g_X12_command y) e 1 := by
  obtain ⟨r, n2, k2, z⟩ := cm_s hW h hL hq h13
  rcases o with ⟨n, k, rfl⟩ | ⟨w, n, hw, k, o⟩
  · obtain ⟨rfl, rfl⟩ := kwP_u k k2
    rcases z with ⟨-, p⟩ | ⟨v, -, z, -⟩
    · exact p
    · cases z
  · obtain ⟨rfl, rfl⟩ := kwP_u k k2
    rcases z with ⟨z, -⟩ | ⟨v, -, z, p⟩
    · cases z
    · cases z
      rw [o] at p
      exact p
/-- the semicolon -/
theorem bod_s {y : kY} {e : Nat} (h : tY T L e y) (hL : L ≤ 60) (he : e < L) (h13 : y.1 13 = 0) : (sgT T L e = 59 ∧ yP y (g_X12_expects y 59) (e + 1) 0 ∧ bodC y = g_X12_command (g_X12_expects y 59)) ∨ (¬ sgT T L e = 59 ∧ yP y (bodC y) e 1) := by
  unfold bodC
  rcases ex_s h hL (by omega) h13 (c := 59) with ⟨d, p⟩ | ⟨d, p⟩
  · rw [if_pos p.2.2.2]
    exact Or.inl ⟨d, p, rfl⟩
  · rw [p.2.2.2, if_neg y01]
    exact Or.inr ⟨d, p⟩
theorem nend {y : kY} {e : Nat} (h : tY T L e y) (hL : L ≤ 60) (he : e < L) : ¬ y.1 11 ≤ y.1 10 := by
  rw [h.1, h.2.1]
  exact nI_ge he (by omega)
theorem yend {y : kY} (h : tY T L L y) (hL : L ≤ 60) : y.1 11 ≤ y.1 10 := by
  rw [h.1, h.2.1]
  exact nI_le (Nat.le_refl L) (by omega)
/-- reading alone: an error -/
theorem rdE (hL : L ≤ 60) {m : Nat} : ∀ {y : kY} {q e k j : Nat} {n : Int32}, m < k → kWo y → tY T L q y → q ≤ L → y.1 13 = 0 → y.1 14 = 0 → y.1 0 = 0 → kMv (y.2 0) → kRm1 (y.2 0) → pE T L m q e → yP y (cmL k (g_X12_command y) j n).1 e 1 ∧ okC k (g_X12_command y) := by
  induction m with
  | zero =>
    intro y q e k j n hk hW h hq h13 h14 h0 hv hm p
    rcases p with p | ⟨w, a, b, c, o, he, ne⟩
    · have z := cm_e hW h hL hq h13 p
      have z13 : ¬ (g_X12_command y).1 13 = 0 := by rw [z.2.2.2]; exact y01
      rw [cmL_0 (Or.inl z13)]
      exact ⟨z, okC_0 (Or.inl z13)⟩
    · obtain ⟨y2, p2, e2⟩ := cm_o hW h hL hq h13 o
      rw [if_pos h14] at e2
      rw [e2]
      obtain ⟨k, rfl⟩ : ∃ k2, k = k2 + 1 := ⟨k - 1, by omega⟩
      have t2 := yP_T h p2
      have h02 : y2.1 0 = 0 := (p2.2.1 0 (by decide) (by decide)).trans h0
      have ne2 := nend t2 hL he
      rcases bod_s t2 hL he p2.2.2.2 with ⟨d, -⟩ | ⟨d, p3⟩
      · exact absurd d ne
      · have z13 : ¬ (bodC y2).1 13 = 0 := by rw [p3.2.2.2]; exact y01
        rw [cmL_1 p2.2.2.2 h02 ne2, cmL_0 (Or.inl z13)]
        refine ⟨yP_t p2 p3, fun _ _ _ => ⟨ok_of t2 hL (by omega) (Or.inl p2.2.2.2) (wo_y hW p2.1) (by rw [p2.1 0 (by decide)]; exact hv) (by rw [p2.1 0 (by decide)]; exact hm), okC_0 (Or.inl z13)⟩⟩
  | succ m ih =>
    intro y q e k j n hk hW h hq h13 h14 h0 hv hm p
    obtain ⟨w, a, b, c, e1, o, he, s, p⟩ := p
    obtain ⟨y2, p2, e2⟩ := cm_o hW h hL hq h13 o
    rw [if_pos h14] at e2
    rw [e2]
    obtain ⟨k, rfl⟩ : ∃ k2, k = k2 + 1 := ⟨k - 1, by omega⟩
    have t2 := yP_T h p2
    have h02 : y2.1 0 = 0 := (p2.2.1 0 (by decide) (by decide)).trans h0
    have ne2 := nend t2 hL he
    rcases bod_s t2 hL he p2.2.2.2 with ⟨-, p3, e3⟩ | ⟨d, -⟩
    · have p4 := yP_t p2 p3
      have z := ih (y := g_X12_expects y2 59) (q := e1 + 1) (e := e) (k := k) (j := j + 1) (n := n + Int32.ofInt 1) (by omega) (wo_y hW p4.1) (yP_T h p4) (by omega) p4.2.2.2 ((p4.2.1 14 (by decide) (by decide)).trans h14) ((p4.2.1 0 (by decide) (by decide)).trans h0) (by rw [p4.1 0 (by decide)]; exact hv) (by rw [p4.1 0 (by decide)]; exact hm) p
      rw [cmL_1 p2.2.2.2 h02 ne2, e3]
      exact ⟨yP_t p4 z.1, fun _ _ _ => ⟨ok_of t2 hL (by omega) (Or.inl p2.2.2.2) (wo_y hW p2.1) (by rw [p2.1 0 (by decide)]; exact hv) (by rw [p2.1 0 (by decide)]; exact hm), by rw [e3]; exact z.2⟩⟩
    · exact absurd s d
/-- reading alone: a command text -/
theorem rdO (hL : L ≤ 60) {xs : kK} {m : Nat} : ∀ {y : kY} {q i k j : Nat} {n : Int32}, m < k → kWo y → tY T L q y → q ≤ L → y.1 13 = 0 → y.1 14 = 0 → y.1 0 = 0 → kMv (y.2 0) → kRm1 (y.2 0) → pL T L xs m i q → yP y (cmL k (g_X12_command y) j n).1 L 0 ∧ okC k (g_X12_command y) := by
  induction m with
  | zero =>
    intro y q i k j n hk hW h hq h13 h14 h0 hv hm p
    obtain ⟨w, a, b, c, o, -⟩ := p
    obtain ⟨y2, p2, e2⟩ := cm_o hW h hL hq h13 o
    rw [if_pos h14] at e2
    rw [e2]
    have en := yend (yP_T h p2) hL
    rw [cmL_0 (Or.inr (Or.inr en))]
    exact ⟨p2, okC_0 (Or.inr (Or.inr en))⟩
  | succ m ih =>
    intro y q i k j n hk hW h hq h13 h14 h0 hv hm p
    obtain ⟨w, a, b, c, e1, o, -, he, s, p⟩ := p
    obtain ⟨y2, p2, e2⟩ := cm_o hW h hL hq h13 o
    rw [if_pos h14] at e2
    rw [e2]
    obtain ⟨k, rfl⟩ : ∃ k2, k = k2 + 1 := ⟨k - 1, by omega⟩
    have t2 := yP_T h p2
    have h02 : y2.1 0 = 0 := (p2.2.1 0 (by decide) (by decide)).trans h0
    have ne2 := nend t2 hL he
    rcases bod_s t2 hL he p2.2.2.2 with ⟨-, p3, e3⟩ | ⟨d, -⟩
    · have p4 := yP_t p2 p3
      have z := ih (y := g_X12_expects y2 59) (q := e1 + 1) (i := i + 1) (k := k) (j := j + 1) (n := n + Int32.ofInt 1) (by omega) (wo_y hW p4.1) (yP_T h p4) (by omega) p4.2.2.2 ((p4.2.1 14 (by decide) (by decide)).trans h14) ((p4.2.1 0 (by decide) (by decide)).trans h0) (by rw [p4.1 0 (by decide)]; exact hv) (by rw [p4.1 0 (by decide)]; exact hm) p
      rw [cmL_1 p2.2.2.2 h02 ne2, e3]
      exact ⟨yP_t p4 z.1, fun _ _ _ => ⟨ok_of t2 hL (by omega) (Or.inl p2.2.2.2) (wo_y hW p2.1) (by rw [p2.1 0 (by decide)]; exact hv) (by rw [p2.1 0 (by decide)]; exact hm), by rw [e3]; exact z.2⟩⟩
    · exact absurd s d
end RDY
