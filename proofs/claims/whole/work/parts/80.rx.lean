/-! ALL OF BOTH STATES: t bounds the commands so far. -/
theorem RJ_ext {hb t : Nat} {c d : kCo} {v w : Nat → Int32} (h : RJ hb t c v) (hd : d = c) (e : ∀ i, i < 116 → w i = v i) : RJ hb t d w := by
  subst hd
  have e0 : vEq v w 0 12 := fun i _ b => e i (by omega)
  have e1 : vEq v w 12 76 := fun i _ b => e i (by omega)
  have e2 : vEq v w 76 92 := fun i _ b => e i (by omega)
  have e3 : vEq v w 92 116 := fun i _ b => e i (by omega)
  have e4 : vEq v w 12 92 := fun i _ b => e i (by omega)
  exact ⟨⟨rcN_v h.N e0, rcT_c h.T rfl e1, rcP_c h.P rfl rfl (e 6 (by omega)) h.nP8 e2, reL_c h.L rfl rfl rfl (e 7 (by omega)) h.nL8 e3, h.A⟩, vB_c h.B e0 (Nat.le_refl _) (Nat.le_refl _), vP_c h.Q e2, vD_c h.D h.Q h.B.2.2.1 (e 3 (by omega)) (e 6 (by omega)) h.nP8 e4, vL_c h.E (e 0 (by omega)) (e 7 (by omega)) h.nL8 e3 (Nat.le_refl _)⟩
theorem RI_up {t t2 : Nat} {c : kCo} {v : Nat → Int32} (h : RI t c v) (ht : t ≤ t2) : RI t2 c v := RJ.mono h (by omega) ht
abbrev hix (e c i : Nat) : Nat := 3 + (e + 8 - c + i) % 8
def rxH (t : Nat) (x : kK) (y : kY) : Prop := ∃ e c, e < 8 ∧ c ≤ 8 ∧ x.2.1 0 = nI e ∧ x.2.1 1 = nI c ∧ y.1 1 = nI c ∧ ∀ i, i < c → RI t (x.1 (hix e c i)) (fun k => y.2 3 (i * 116 + k))
def rxS (t : Nat) (x : kK) (y : kY) : Prop := x.2.1 8 = y.1 6 ∧ (y.1 6 = 0 ∨ y.1 6 = 1) ∧ (y.1 6 ≠ 0 → RI t (x.1 1) (y.2 2))
def rxK (x : kK) (y : kY) : Prop := x.2.1 9 = y.1 4 ∧ x.2.1 10 = y.1 5
def rxE (x : kK) (y : kY) : Prop := (x.2.1 11 = y.1 2 ∧ (y.1 2 = -1 ∨ isN (y.1 2) 61)) ∧ (x.2.1 12 = y.1 3 ∧ (y.1 3 = -1 ∨ isN (y.1 3) 61))
def rxT (x : kK) (y : kY) : Prop := ∃ L, L ≤ 60 ∧ x.2.1 4 = nI L ∧ y.1 9 = nI L ∧ ∀ j, j < L → x.2.2.1 5 j = y.2 6 j ∧ isN (y.2 6 j) 127
def rxL (x : kK) (y : kY) : Prop := ∃ L, L ≤ 32 ∧ x.2.1 7 = nI L ∧ y.1 12 = nI L ∧ ∀ j, j < L → x.2.2.1 7 j = y.2 7 j ∧ isN (y.2 7 j) 127
def rxO (x : kK) (y : kY) : Prop := kLc x ∧ kChn x ∧ kWo y
def RX (t : Nat) (x : kK) (y : kY) : Prop := RI t (x.1 0) (y.2 0) ∧ rxH t x y ∧ rxS t x y ∧ rxK x y ∧ rxE x y ∧ rxT x y ∧ rxL x y ∧ rxO x y
section RXC
variable {t t2 : Nat} {x x2 : kK} {y y2 : kY}
theorem RX.R (h : RX t x y) : RI t (x.1 0) (y.2 0) := h.1
theorem RX.H (h : RX t x y) : rxH t x y := h.2.1
theorem RX.S (h : RX t x y) : rxS t x y := h.2.2.1
theorem RX.K (h : RX t x y) : rxK x y := h.2.2.2.1
theorem RX.E (h : RX t x y) : rxE x y := h.2.2.2.2.1
theorem RX.T (h : RX t x y) : rxT x y := h.2.2.2.2.2.1
theorem RX.L (h : RX t x y) : rxL x y := h.2.2.2.2.2.2.1
theorem RX.O (h : RX t x y) : rxO x y := h.2.2.2.2.2.2.2
theorem rxH_c (h : rxH t x y) (ht : t ≤ t2) (e0 : x2.2.1 0 = x.2.1 0) (e1 : x2.2.1 1 = x.2.1 1) (ec : ∀ k, 3 ≤ k → x2.1 k = x.1 k) (f1 : y2.1 1 = y.1 1) (f3 : y2.2 3 = y.2 3) : rxH t2 x2 y2 := by
  obtain ⟨e, c, h1, h2, h3, h4, h5, h6⟩ := h
  refine ⟨e, c, h1, h2, e0.trans h3, e1.trans h4, f1.trans h5, fun i hi => ?_⟩
  rw [ec _ (Nat.le_add_right 3 _), f3]
  exact RI_up (h6 i hi) ht
theorem rxS_c (h : rxS t x y) (ht : t ≤ t2) (e8 : x2.2.1 8 = x.2.1 8) (ec : x2.1 1 = x.1 1) (f6 : y2.1 6 = y.1 6) (f2 : y2.2 2 = y.2 2) : rxS t2 x2 y2 := by
  obtain ⟨h1, h2, h3⟩ := h
  refine ⟨by rw [e8, f6]; exact h1, by rw [f6]; exact h2, fun z => ?_⟩
  rw [ec, f2]
  rw [f6] at z
  exact RI_up (h3 z) ht
theorem rxK_c (h : rxK x y) (e9 : x2.2.1 9 = x.2.1 9) (e10 : x2.2.1 10 = x.2.1 10) (f4 : y2.1 4 = y.1 4) (f5 : y2.1 5 = y.1 5) : rxK x2 y2 := ⟨by rw [e9, f4]; exact h.1, by rw [e10, f5]; exact h.2⟩
theorem rxE_c (h : rxE x y) (e11 : x2.2.1 11 = x.2.1 11) (e12 : x2.2.1 12 = x.2.1 12) (f2 : y2.1 2 = y.1 2) (f3 : y2.1 3 = y.1 3) : rxE x2 y2 := by
  unfold rxE
  rw [e11, e12, f2, f3]
  exact h
theorem rxT_c (h : rxT x y) (e4 : x2.2.1 4 = x.2.1 4) (er : x2.2.2.1 5 = x.2.2.1 5) (f9 : y2.1 9 = y.1 9) (f6 : y2.2 6 = y.2 6) : rxT x2 y2 := by
  unfold rxT
  rw [e4, er, f9, f6]
  exact h
theorem rxL_c (h : rxL x y) (e7 : x2.2.1 7 = x.2.1 7) (er : x2.2.2.1 7 = x.2.2.1 7) (f12 : y2.1 12 = y.1 12) (f7 : y2.2 7 = y.2 7) : rxL x2 y2 := by
  unfold rxL
  rw [e7, er, f12, f7]
  exact h
theorem rxO_c (h : rxO x y) (er : ∀ k, 1 ≤ k → k ≤ 4 → x2.2.2.1 k = x.2.2.1 k) (e7 : x2.2.2.1 7 = x.2.2.1 7) (f9 : y2.2 9 = y.2 9) (f10 : y2.2 10 = y.2 10) : rxO x2 y2 := by
  obtain ⟨h1, h2, h3⟩ := h
  refine ⟨?_, ?_, ?_⟩
  · unfold kLc
    rw [e7]
    exact h1
  · unfold kChn kQu
    rw [er 4 (by omega) (by omega), er 3 (by omega) (by omega), er 2 (by omega) (by omega), er 1 (by omega) (by omega)]
    exact h2
  · unfold kWo
    rw [f9, f10]
    exact h3
/-! the reference's ring: a change's begin and end -/
theorem enS_i {k : Nat} : ∀ {y : kY} {j : Nat}, j + k ≤ 812 → (enS k y j).1 = y.1 ∧ (∀ r, r ≠ 3 → (enS k y j).2 r = y.2 r) ∧ ∀ i, (enS k y j).2 3 i = if j ≤ i ∧ i < j + k then y.2 3 (i + 116) else y.2 3 i := by
  induction k with
  | zero => intro y j _; exact ⟨rfl, fun _ _ => rfl, fun i => by rw [enS, if_neg (by omega)]⟩
  | succ k ih =>
    intro y j hj
    have s3 : ∀ f : Nat → Int32, (yR y 3 f).2 3 = f := fun f => rfl
    rw [enS, show (116 : Int32) = nI 116 from rfl, nI_add, nI_clamp (show j < 2 ^ 31 by omega), nI_clamp (show j + 116 < 2 ^ 31 by omega)]
    obtain ⟨a1, a2, a3⟩ := ih (y := yR y 3 (upd (y.2 3) j (y.2 3 (j + 116)))) (j := j + 1) (by omega)
    refine ⟨a1, fun r hr => (a2 r hr).trans (if_neg hr), fun i => ?_⟩
    rw [a3, s3]
    by_cases h1 : i = j
    · subst h1
      rw [if_neg (by omega), pk_us, if_pos (by omega)]
    · rw [pk_un h1]
      by_cases h2 : j + 1 ≤ i ∧ i < j + 1 + k
      · rw [if_pos h2, pk_un (by omega), if_pos (by omega)]
      · rw [if_neg h2, if_neg (by omega)]
theorem enC_i {c k : Nat} (hc : c < 8) : ∀ {y : kY} {j : Nat}, j + k ≤ 116 → y.1 1 = nI c → (enC k y j).1 = y.1 ∧ (∀ r, r ≠ 3 → (enC k y j).2 r = y.2 r) ∧ ∀ i, (enC k y j).2 3 i = if c * 116 + j ≤ i ∧ i < c * 116 + j + k then y.2 1 (i - c * 116) else y.2 3 i := by
  induction k with
  | zero => intro y j _ _; exact ⟨rfl, fun _ _ => rfl, fun i => by rw [enC, if_neg (by omega)]⟩
  | succ k ih =>
    intro y j hj h1
    have s3 : ∀ f : Nat → Int32, (yR y 3 f).2 3 = f := fun f => rfl
    rw [enC, h1, show (116 : Int32) = nI 116 from rfl, pk_mul, nI_add, nI_clamp (show j < 2 ^ 31 by omega), nI_clamp (show c * 116 + j < 2 ^ 31 by omega)]
    obtain ⟨a1, a2, a3⟩ := ih (y := yR y 3 (upd (y.2 3) (c * 116 + j) (y.2 1 j))) (j := j + 1) (by omega) h1
    refine ⟨a1, fun r hr => (a2 r hr).trans (if_neg hr), fun i => ?_⟩
    rw [a3, s3, show (yR y 3 (upd (y.2 3) (c * 116 + j) (y.2 1 j))).2 1 = y.2 1 from rfl]
    by_cases h1 : i = c * 116 + j
    · subst h1
      rw [if_neg (by omega), pk_us, if_pos (by omega), show c * 116 + j - c * 116 = j by omega]
    · rw [pk_un h1]
      by_cases h2 : c * 116 + (j + 1) ≤ i ∧ i < c * 116 + (j + 1) + k
      · rw [if_pos h2, if_pos (by omega)]
      · rw [if_neg h2, if_neg (by omega)]
theorem ys_1 {z : kY} {r : Nat} {w : Int32} : (yS z r w).1 = upd z.1 r w := rfl
theorem ys_2 {z : kY} {r : Nat} {w : Int32} : (yS z r w).2 = z.2 := rfl
/-- the end of a change that went well -/
theorem ends_ok {c : Nat} {y : kY} {v : Int32} (hc : c ≤ 8) (h0 : y.1 0 = 0) (h1 : y.1 1 = nI c) : f_X12_ends y v = v ∧ (g_X12_ends y v).1 1 = nI (min (c + 1) 8) ∧ (∀ k, k ≠ 1 → (g_X12_ends y v).1 k = y.1 k) ∧ (∀ r, r ≠ 3 → (g_X12_ends y v).2 r = y.2 r) ∧ (∀ i k, i + 1 < min (c + 1) 8 → k < 116 → (g_X12_ends y v).2 3 (i * 116 + k) = y.2 3 ((if c = 8 then i + 1 else i) * 116 + k)) ∧ ∀ k, k < 116 → (g_X12_ends y v).2 3 ((min (c + 1) 8 - 1) * 116 + k) = y.2 1 k := by
  unfold f_X12_ends g_X12_ends
  rw [if_pos h0, if_pos h0]
  by_cases h8 : c = 8
  · subst h8
    have e8 : y.1 1 = 8 := h1
    rw [if_pos e8, if_pos e8]
    obtain ⟨a1, a2, a3⟩ := enS_i (k := 812) (y := y) (j := 0) (by omega)
    have e7 : (yS (enS 812 y 0) 1 ((enS 812 y 0).1 1 - 1)).1 1 = nI 7 := by
      rw [ys_1, pk_us, a1, h1]
      exact nI_pred 7
    obtain ⟨b1, b2, b3⟩ := enC_i (c := 7) (k := 116) (by omega) (y := yS (enS 812 y 0) 1 ((enS 812 y 0).1 1 - 1)) (j := 0) (by omega) e7
    refine ⟨rfl, ?_, fun k hk => ?_, fun r hr => ?_, fun i k hi hk => ?_, fun k hk => ?_⟩
    · rw [ys_1, pk_us, b1, e7, nI_1]
      rfl
    · rw [ys_1, pk_un hk, b1, ys_1, pk_un hk, a1]
    · rw [ys_2, b2 r hr, ys_2]
      exact a2 r hr
    · rw [ys_2, b3, if_neg (by omega), ys_2, a3, if_pos (by omega), if_pos rfl, show i * 116 + k + 116 = (i + 1) * 116 + k by omega]
    · rw [ys_2, b3, if_pos (by omega), ys_2, a2 1 (by decide), show (min (8 + 1) 8 - 1) * 116 + k - 7 * 116 = k by omega]
  · have e8 : ¬ y.1 1 = 8 := by
      rw [h1]
      intro z
      have z2 : nI c = nI 8 := z
      exact h8 ((nI_eq (by omega) (by omega)).1 z2)
    rw [if_neg e8, if_neg e8]
    obtain ⟨b1, b2, b3⟩ := enC_i (c := c) (k := 116) (by omega) (y := y) (j := 0) (by omega) h1
    have mc : min (c + 1) 8 = c + 1 := by omega
    rw [mc]
    refine ⟨rfl, ?_, fun k hk => ?_, fun r hr => ?_, fun i k hi hk => ?_, fun k hk => ?_⟩
    · rw [ys_1, pk_us, b1, h1, nI_1]
    · rw [ys_1, pk_un hk, b1]
    · rw [ys_2]
      exact b2 r hr
    · rw [ys_2, b3, if_neg (by omega), if_neg h8]
    · rw [ys_2, b3, if_pos (by omega), show (c + 1 - 1) * 116 + k - c * 116 = k by omega]
theorem ends_no {y : kY} {v : Int32} (h0 : y.1 0 ≠ 0) : g_X12_ends y v = yR y 0 (y.2 1) := by
  unfold g_X12_ends
  rw [if_neg h0]
/-- the rings behind a change: the class keeps the state s where the reference keeps its row of before -/
theorem rxH_ok (h : rxH t x y) (ht : t ≤ t2) {c0 : kCo} (hr : RI t c0 (y2.2 1)) (hx : ∀ e c, e < 8 → c ≤ 8 → x.2.1 0 = nI e → x.2.1 1 = nI c → x2.2.1 0 = nI ((e + 1) % 8) ∧ x2.2.1 1 = nI (min (c + 1) 8) ∧ x2.1 (3 + e) = c0 ∧ ∀ k, 3 ≤ k → k ≠ 3 + e → x2.1 k = x.1 k) (h0 : y2.1 0 = 0) (f1 : y2.1 1 = y.1 1) (f3 : y2.2 3 = y.2 3) (v : Int32) : rxH t2 x2 (g_X12_ends y2 v) := by
  obtain ⟨e, c, h1, h2, h3, h4, h5, h6⟩ := h
  obtain ⟨a1, a2, a3, a4⟩ := hx e c h1 h2 h3 h4
  obtain ⟨-, b1, -, -, b4, b5⟩ := ends_ok (v := v) h2 h0 (f1.trans h5)
  refine ⟨(e + 1) % 8, min (c + 1) 8, by omega, by omega, a1, a2, b1, fun i hi => ?_⟩
  by_cases hl : i + 1 = min (c + 1) 8
  · have ei : hix ((e + 1) % 8) (min (c + 1) 8) i = 3 + e := by unfold hix; omega
    rw [ei, a3]
    refine RJ_ext (RI_up hr ht) rfl (fun k hk => ?_)
    have := b5 k hk
    rw [show min (c + 1) 8 - 1 = i by omega] at this
    exact this
  · have hi2 : i + 1 < min (c + 1) 8 := by omega
    have ei : hix ((e + 1) % 8) (min (c + 1) 8) i = hix e c (if c = 8 then i + 1 else i) ∧ hix e c (if c = 8 then i + 1 else i) ≠ 3 + e := by
      unfold hix
      split <;> omega
    rw [ei.1, a4 _ (by unfold hix; omega) ei.2]
    refine RJ_ext (RI_up (h6 (if c = 8 then i + 1 else i) (by split <;> omega)) ht) rfl (fun k hk => ?_)
    have := b4 i k hi2 hk
    rw [f3] at this
    exact this
theorem rem_is {s : Nat} {e c : Nat} (he : e < 8) (hc : c ≤ 8) (h0 : x.2.1 0 = nI e) (h1 : x.2.1 1 = nI c) : remS x s = g_rem x s e c := by
  unfold remS
  rw [h0, h1, nI_clamp (by omega), nI_clamp (by omega)]
theorem rem_c {s : Nat} {k : Nat} (hk : k < 3) : (remS x s).1 k = x.1 k := by
  show va_up x.1 (3 + _) _ k = x.1 k
  unfold va_up
  rw [if_neg (by omega)]
/-- a change that goes well -/
theorem RX_ok (X : RX t x y) (ht : t ≤ t2) {x3 : kK} (hq : kKq (remS x 0) x3) (hy : kAc (g_X12_begins y) y2) (h0 : y2.1 0 = 0) (h4 : y2.1 4 = y.1 4) (h5 : y2.1 5 = y.1 5) (R : RI t2 (x3.1 0) (y2.2 0)) (v : Int32) : RX t2 x3 (g_X12_ends y2 v) ∧ f_X12_ends y2 v = v ∧ (g_X12_ends y2 v).1 0 = 0 := by
  obtain ⟨e, c, e8, c8, he, hc, hcy, -⟩ := X.H
  have f1 : y2.1 1 = y.1 1 := (hy.1 1 (by decide) (by decide) (by decide) (by decide) (by decide)).trans rfl
  have f3 : y2.2 3 = y.2 3 := hy.2 3 (by decide) (by decide)
  have fb : y2.2 1 = y.2 0 := hy.2 1 (by decide) (by decide)
  obtain ⟨a1, a2, a3, a4, -, -⟩ := ends_ok (v := v) c8 h0 (f1.trans hcy)
  have rm := rem_is (x := x) (s := 0) e8 c8 he hc
  have xn : ∀ k, k ≠ 0 → k ≠ 1 → k ≠ 2 → k ≠ 3 → x3.2.1 k = x.2.1 k := by
    intro k h0 h1 h2 h3
    rw [hq.2.1 k h2 h3, rm]
    show upd (upd x.2.1 0 (nI ((e + 1) % 8))) 1 (nI (min (c + 1) 8)) k = _
    rw [pk_un h1, pk_un h0]
  have xr : ∀ k, k ≠ 0 → x3.2.2.1 k = x.2.2.1 k := fun k hk => (hq.2.2.1 k hk).trans rfl
  have yn : ∀ k, k ≠ 0 → k ≠ 1 → k ≠ 4 → k ≠ 5 → k ≠ 7 → k ≠ 8 → (g_X12_ends y2 v).1 k = y.1 k := by
    intro k h0 h1 h4 h5 h7 h8
    rw [a3 k h1, hy.1 k h0 h4 h5 h7 h8]
    show upd y.1 0 0 k = _
    rw [pk_un h0]
  have yr : ∀ r, r ≠ 0 → r ≠ 1 → r ≠ 3 → r ≠ 4 → (g_X12_ends y2 v).2 r = y.2 r := by
    intro r h0 h1 h3 h4
    rw [a4 r h3, hy.2 r h0 h4]
    show va_up y.2 1 _ r = _
    unfold va_up
    rw [if_neg h1]
  refine ⟨⟨?_, ?_, ?_, ?_, ?_, ?_, ?_, ?_⟩, a1, ?_⟩
  · rw [a4 0 (by decide)]
    exact R
  · refine rxH_ok X.H ht (c0 := x.1 0) (by rw [fb]; exact X.R) (fun e2 c2 h1 h2 g1 g2 => ?_) h0 f1 f3 v
    have ee : e2 = e := (nI_eq (by omega) (by omega)).1 (g1.symm.trans he)
    have cc : c2 = c := (nI_eq (by omega) (by omega)).1 (g2.symm.trans hc)
    subst ee
    subst cc
    refine ⟨?_, ?_, ?_, fun k hk hke => ?_⟩
    · rw [hq.2.1 0 (by decide) (by decide), rm]
      show upd (upd x.2.1 0 (nI ((e2 + 1) % 8))) 1 (nI (min (c2 + 1) 8)) 0 = _
      rw [pk_un (by decide), pk_us]
    · rw [hq.2.1 1 (by decide) (by decide), rm]
      show upd (upd x.2.1 0 (nI ((e2 + 1) % 8))) 1 (nI (min (c2 + 1) 8)) 1 = _
      rw [pk_us]
    · rw [hq.1 _ (by omega), rm]
      show va_up x.1 (3 + e2) (x.1 0) (3 + e2) = _
      exact if_pos rfl
    · rw [hq.1 k (by omega), rm]
      show va_up x.1 (3 + e2) (x.1 0) k = _
      exact if_neg hke
  · refine rxS_c X.S ht (xn 8 (by decide) (by decide) (by decide) (by decide)) ?_ (yn 6 (by decide) (by decide) (by decide) (by decide) (by decide) (by decide)) (yr 2 (by decide) (by decide) (by decide) (by decide))
    rw [hq.1 1 (by decide)]
    exact rem_c (by decide)
  · exact rxK_c X.K (xn 9 (by decide) (by decide) (by decide) (by decide)) (xn 10 (by decide) (by decide) (by decide) (by decide)) ((a3 4 (by decide)).trans h4) ((a3 5 (by decide)).trans h5)
  · exact rxE_c X.E (xn 11 (by decide) (by decide) (by decide) (by decide)) (xn 12 (by decide) (by decide) (by decide) (by decide)) (yn 2 (by decide) (by decide) (by decide) (by decide) (by decide) (by decide)) (yn 3 (by decide) (by decide) (by decide) (by decide) (by decide) (by decide))
  · exact rxT_c X.T (xn 4 (by decide) (by decide) (by decide) (by decide)) (xr 5 (by decide)) (yn 9 (by decide) (by decide) (by decide) (by decide) (by decide) (by decide)) (yr 6 (by decide) (by decide) (by decide) (by decide))
  · exact rxL_c X.L (xn 7 (by decide) (by decide) (by decide) (by decide)) (xr 7 (by decide)) (yn 12 (by decide) (by decide) (by decide) (by decide) (by decide) (by decide)) (yr 7 (by decide) (by decide) (by decide) (by decide))
  · exact rxO_c X.O (fun k h1 _ => xr k (by omega)) (xr 7 (by decide)) (yr 9 (by decide) (by decide) (by decide) (by decide)) (yr 10 (by decide) (by decide) (by decide) (by decide))
  · rw [a3 0 (by decide)]
    exact h0
/-- a change that fails -/
theorem RX_no (X : RX t x y) (ht : t ≤ t2) {x1 : kK} (hp : kKp x x1) (hy : kAc (g_X12_begins y) y2) (h0 : y2.1 0 ≠ 0) (hk : rxK x1 y2) (v : Int32) : RX t2 x1 (g_X12_ends y2 v) ∧ (g_X12_ends y2 v).1 0 = y2.1 0 := by
  rw [ends_no h0]
  have fb : y2.2 1 = y.2 0 := hy.2 1 (by decide) (by decide)
  have yn : ∀ k, k ≠ 0 → k ≠ 4 → k ≠ 5 → k ≠ 7 → k ≠ 8 → y2.1 k = y.1 k := by
    intro k h0 h4 h5 h7 h8
    rw [hy.1 k h0 h4 h5 h7 h8]
    show upd y.1 0 0 k = _
    rw [pk_un h0]
  have yr : ∀ r, r ≠ 0 → r ≠ 1 → r ≠ 4 → (yR y2 0 (y2.2 1)).2 r = y.2 r := by
    intro r h0 h1 h4
    show va_up y2.2 0 _ r = _
    unfold va_up
    rw [if_neg h0, hy.2 r h0 h4]
    show va_up y.2 1 _ r = _
    unfold va_up
    rw [if_neg h1]
  have xn : ∀ k, k ≠ 9 → k ≠ 10 → x1.2.1 k = x.2.1 k := hp.2.1
  have xr : ∀ k, x1.2.2.1 k = x.2.2.1 k := fun k => by rw [hp.2.2]
  refine ⟨⟨?_, rxH_c X.H ht (xn 0 (by decide) (by decide)) (xn 1 (by decide) (by decide)) (fun k _ => by rw [hp.1]) (yn 1 (by decide) (by decide) (by decide) (by decide) (by decide)) (yr 3 (by decide) (by decide) (by decide)), rxS_c X.S ht (xn 8 (by decide) (by decide)) (by rw [hp.1]) (yn 6 (by decide) (by decide) (by decide) (by decide) (by decide)) (yr 2 (by decide) (by decide) (by decide)), hk, rxE_c X.E (xn 11 (by decide) (by decide)) (xn 12 (by decide) (by decide)) (yn 2 (by decide) (by decide) (by decide) (by decide) (by decide)) (yn 3 (by decide) (by decide) (by decide) (by decide) (by decide)), rxT_c X.T (xn 4 (by decide) (by decide)) (xr 5) (yn 9 (by decide) (by decide) (by decide) (by decide) (by decide)) (yr 6 (by decide) (by decide) (by decide)), rxL_c X.L (xn 7 (by decide) (by decide)) (xr 7) (yn 12 (by decide) (by decide) (by decide) (by decide) (by decide)) (yr 7 (by decide) (by decide) (by decide)), rxO_c X.O (fun k _ _ => xr k) (xr 7) (yr 9 (by decide) (by decide) (by decide)) (yr 10 (by decide) (by decide) (by decide))⟩, rfl⟩
  show RI t2 (x1.1 0) (y2.2 1)
  rw [hp.1, fb]
  exact RI_up X.R ht
/-- queries: nothing that counts has changed -/
theorem RX_q (X : RX t x y) (ht : t ≤ t2) (e1 : x2.1 = x.1) (xn : ∀ k, k ≠ 2 → k ≠ 3 → x2.2.1 k = x.2.1 k) (xr : ∀ k, k = 5 ∨ k = 7 → x2.2.2.1 k = x.2.2.1 k) (hc : kChn x2) (yn : ∀ k, k ≠ 0 → k ≠ 7 → k ≠ 8 → y2.1 k = y.1 k) (yr : ∀ r, r ≠ 4 → r ≠ 5 → y2.2 r = y.2 r) : RX t2 x2 y2 := by
  refine ⟨?_, rxH_c X.H ht (xn 0 (by decide) (by decide)) (xn 1 (by decide) (by decide)) (fun k _ => by rw [e1]) (yn 1 (by decide) (by decide) (by decide)) (yr 3 (by decide) (by decide)), rxS_c X.S ht (xn 8 (by decide) (by decide)) (by rw [e1]) (yn 6 (by decide) (by decide) (by decide)) (yr 2 (by decide) (by decide)), rxK_c X.K (xn 9 (by decide) (by decide)) (xn 10 (by decide) (by decide)) (yn 4 (by decide) (by decide) (by decide)) (yn 5 (by decide) (by decide) (by decide)), rxE_c X.E (xn 11 (by decide) (by decide)) (xn 12 (by decide) (by decide)) (yn 2 (by decide) (by decide) (by decide)) (yn 3 (by decide) (by decide) (by decide)), rxT_c X.T (xn 4 (by decide) (by decide)) (xr 5 (Or.inl rfl)) (yn 9 (by decide) (by decide) (by decide)) (yr 6 (by decide) (by decide)), rxL_c X.L (xn 7 (by decide) (by decide)) (xr 7 (Or.inr rfl)) (yn 12 (by decide) (by decide) (by decide)) (yr 7 (by decide) (by decide)), ?_⟩
  · rw [e1, yr 0 (by decide) (by decide)]
    exact RI_up X.R ht
  · obtain ⟨h1, h2, h3⟩ := X.O
    refine ⟨?_, hc, ?_⟩
    · unfold kLc
      rw [xr 7 (Or.inr rfl)]
      exact h1
    · unfold kWo
      rw [yr 9 (by decide) (by decide), yr 10 (by decide) (by decide)]
      exact h3
theorem RX.hi (X : RX t x y) : kHi x := by
  obtain ⟨e, c, e8, c8, he, hc, -, -⟩ := X.H
  exact ⟨e, c, e8, c8, he, hc⟩
theorem RX.ch (X : RX t x y) : ∃ c, c ≤ 8 ∧ y.1 1 = nI c := by
  obtain ⟨e, c, e8, c8, he, hc, h, -⟩ := X.H
  exact ⟨c, c8, h⟩
end RXC
