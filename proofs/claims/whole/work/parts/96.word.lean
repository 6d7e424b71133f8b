/-! COMMAND TEXTS: words, both sides. -/
/-- the sign at a place of the text, -1 behind its end -/
def sgT (T : Nat → Int32) (L q : Nat) : Int32 := if q < L then T q else -1
def dgB (c : Int32) : Bool := decide (48 ≤ c) && decide (c ≤ 57)
def tX (T : Nat → Int32) (L q : Nat) (x : kK) : Prop := x.2.1 4 = nI L ∧ x.2.1 5 = nI q ∧ ∀ j, j < L → x.2.2.1 5 j = T j
def tY (T : Nat → Int32) (L q : Nat) (y : kY) : Prop := y.1 11 = nI L ∧ y.1 10 = nI q ∧ ∀ j, j < L → y.2 6 j = T j
theorem sgT_1 {T : Nat → Int32} {L q : Nat} (h : q < L) : sgT T L q = T q := if_pos h
theorem sgT_0 {T : Nat → Int32} {L q : Nat} (h : ¬ q < L) : sgT T L q = -1 := if_neg h
def mtN (s : Nat → Int32) (W : List Int32) : Nat → Nat → Nat
  | 0, j => j
  | k + 1, j => if s j = W.getD j 0 then mtN s W k (j + 1) else j
def lnW (w : Nat) : Nat := (kKeyB.getD w []).length
def chW (w i : Nat) : Int32 := (kKeyB.getD w []).getD i 0
def mtW (s : Nat → Int32) (w : Nat) : Nat := mtN s (kKeyB.getD w []) (lnW w) 0
theorem mtN_s {s : Nat → Int32} {W : List Int32} {n : Nat} {k : Nat} : ∀ {j : Nat}, j + k = n → (∀ i, i < j → s i = W.getD i 0) → j ≤ mtN s W k j ∧ mtN s W k j ≤ n ∧ (∀ i, i < mtN s W k j → s i = W.getD i 0) ∧ (mtN s W k j < n → s (mtN s W k j) ≠ W.getD (mtN s W k j) 0) := by
  induction k with
  | zero => intro j hj h; exact ⟨Nat.le_refl j, by show j ≤ n; omega, h, fun z => by have z2 : j < n := z; omega⟩
  | succ k ih =>
    intro j hj h
    rw [mtN]
    by_cases c : s j = W.getD j 0
    · rw [if_pos c]
      obtain ⟨h1, h2⟩ := ih (j := j + 1) (by omega) (fun i hi => by
        by_cases e : i = j
        · rw [e]; exact c
        · exact h i (by omega))
      exact ⟨by omega, h2⟩
    · rw [if_neg c]
      exact ⟨Nat.le_refl j, by omega, h, fun _ => c⟩
theorem mt_le {s : Nat → Int32} {w : Nat} : mtW s w ≤ lnW w := (mtN_s (n := lnW w) (Nat.zero_add _) (fun i hi => absurd hi (Nat.not_lt_zero i))).2.1
theorem mt_eq {s : Nat → Int32} {w i : Nat} (h : i < mtW s w) : s i = chW w i := (mtN_s (n := lnW w) (Nat.zero_add _) (fun i hi => absurd hi (Nat.not_lt_zero i))).2.2.1 i h
theorem mt_ne {s : Nat → Int32} {w : Nat} (h : mtW s w < lnW w) : s (mtW s w) ≠ chW w (mtW s w) := (mtN_s (n := lnW w) (Nat.zero_add _) (fun i hi => absurd hi (Nat.not_lt_zero i))).2.2.2 h
theorem mt_up {s : Nat → Int32} {w n : Nat} : n + 1 ≤ mtW s w ↔ n ≤ mtW s w ∧ n < lnW w ∧ chW w n = s n := by
  have h1 := mt_le (s := s) (w := w)
  constructor
  · intro h
    exact ⟨by omega, by omega, (mt_eq (by omega)).symm⟩
  · rintro ⟨a, b, c⟩
    by_cases e : mtW s w = n
    · have := mt_ne (s := s) (w := w) (by omega)
      rw [e] at this
      exact absurd c.symm this
    · omega
theorem ln_7 : ∀ w, w < 10 → lnW w ≤ 6 ∧ 4 ≤ lnW w := by decide
theorem ch_m1 : ∀ w, w < 10 → ∀ i, i < 8 → chW w i ≠ -1 := by decide +kernel
theorem wd_df : ∀ w, w < 10 → ∀ v, v < 10 → w ≠ v → ∃ i, i < 7 ∧ (i < lnW w ∧ i < lnW v ∧ chW w i ≠ chW v i) := by decide +kernel
theorem mt_u {s : Nat → Int32} {w v : Nat} (hw : w < 10) (hv : v < 10) (e1 : mtW s w = lnW w) (e2 : mtW s v = lnW v) : w = v := by
  by_cases e : w = v
  · exact e
  · obtain ⟨i, -, h1, h2, h3⟩ := wd_df w hw v hv e
    exact absurd ((mt_eq (s := s) (w := w) (by omega)).symm.trans (mt_eq (s := s) (w := v) (by omega))) h3
/-- what is read: a word and its length, or how far any word goes -/
def kwP (s : Nat → Int32) (r : Option Nat) (n : Nat) : Prop := (∃ w, w < 10 ∧ r = some w ∧ mtW s w = lnW w ∧ n = lnW w) ∨ (r = none ∧ (∀ w, w < 10 → mtW s w < lnW w ∧ mtW s w ≤ n) ∧ ∃ w, w < 10 ∧ mtW s w = n)
theorem kwP_u {s : Nat → Int32} {r r2 : Option Nat} {n n2 : Nat} (h : kwP s r n) (h2 : kwP s r2 n2) : r = r2 ∧ n = n2 := by
  rcases h with ⟨w, hw, rfl, e, rfl⟩ | ⟨rfl, a, w, hw, e⟩
  · rcases h2 with ⟨v, hv, rfl, e2, rfl⟩ | ⟨rfl, a2, -⟩
    · have := mt_u hw hv e e2
      subst this
      exact ⟨rfl, rfl⟩
    · have := (a2 w hw).1
      omega
  · rcases h2 with ⟨v, hv, rfl, e2, rfl⟩ | ⟨rfl, a2, v, hv, e2⟩
    · have := (a v hv).1
      omega
    · have h3 := (a v hv).2
      have h4 := (a2 w hw).2
      exact ⟨rfl, by omega⟩
theorem mt_in {T : Nat → Int32} {L q w : Nat} (hw : w < 10) : mtW (fun i => sgT T L (q + i)) w = 0 ∨ q + mtW (fun i => sgT T L (q + i)) w ≤ L := by
  by_cases e : mtW (fun i => sgT T L (q + i)) w = 0
  · exact Or.inl e
  · right
    obtain ⟨m, hm⟩ : ∃ m, mtW (fun i => sgT T L (q + i)) w = m + 1 := ⟨mtW (fun i => sgT T L (q + i)) w - 1, by omega⟩
    have h1 : sgT T L (q + m) = chW w m := mt_eq (s := fun i => sgT T L (q + i)) (w := w) (i := m) (by omega)
    have h2 := mt_le (s := fun i => sgT T L (q + i)) (w := w)
    have h3 := ln_7 w hw
    by_cases c : q + m < L
    · omega
    · rw [sgT_0 c] at h1
      exact absurd h1.symm (ch_m1 w hw m (by omega))
theorem kwP_in {T : Nat → Int32} {L q n : Nat} {r : Option Nat} (hq : q ≤ L) (h : kwP (fun i => sgT T L (q + i)) r n) : q + n ≤ L := by
  rcases h with ⟨w, hw, -, e, rfl⟩ | ⟨-, -, w, hw, e⟩
  · have := mt_in (T := T) (L := L) (q := q) hw
    have := ln_7 w hw
    omega
  · have := mt_in (T := T) (L := L) (q := q) hw
    omega
/-! the class -/
section WDX
variable {T : Nat → Int32} {L q : Nat} {x : kK}
theorem mtL_is (h : tX T L q x) (hL : L ≤ 60) (hq : q ≤ L) {w : Nat} (hw : w < 10) {k : Nat} : ∀ {j : Nat}, j + k ≤ 7 → mtL x (kKeyB.getD w []) k j = nI (mtN (fun i => sgT T L (q + i)) (kKeyB.getD w []) k j) := by
  obtain ⟨h4, h5, hT⟩ := h
  induction k with
  | zero => intro j _; rfl
  | succ k ih =>
    intro j hj
    rw [mtL, mtN, h4, h5, nI_add, nI_clamp (show q + j < 2 ^ 31 by omega), nI_clamp (show j < 2 ^ 31 by omega)]
    by_cases c : q + j < L
    · rw [if_neg (nI_ge c (by omega)), hT _ c, ih (by omega), sgT_1 c]
      split <;> rfl
    · rw [if_pos (nI_le (by omega) (by omega)), sgT_0 c, if_neg (fun z => ch_m1 w hw j (by omega) z.symm)]
theorem rkL_s (h : tX T L q x) (hL : L ≤ 60) (hq : q ≤ L) {k : Nat} : ∀ {j G : Nat}, j + k = 10 → (∀ w, w < j → mtW (fun i => sgT T L (q + i)) w < lnW w ∧ mtW (fun i => sgT T L (q + i)) w ≤ G) → (G = 0 ∨ ∃ w, w < 10 ∧ mtW (fun i => sgT T L (q + i)) w = G) →
    Sum.elim (fun z : kK × Option Nat => ∃ w, w < 10 ∧ z.2 = some w ∧ mtW (fun i => sgT T L (q + i)) w = lnW w ∧ z.1 = kkS x 5 (nI (q + lnW w))) (fun z : kK × Int32 => z.1 = x ∧ ∃ n, z.2 = nI n ∧ kwP (fun i => sgT T L (q + i)) none n) (rkL k x j (nI G)) := by
  induction k with
  | zero =>
    intro j G hj a b
    have : j = 10 := by omega
    subst this
    refine ⟨rfl, G, rfl, Or.inr ⟨rfl, a, ?_⟩⟩
    rcases b with rfl | b
    · exact ⟨0, by omega, Nat.le_zero.1 (a 0 (by omega)).2⟩
    · exact b
  | succ k ih =>
    intro j G hj a b
    have hj10 : j < 10 := by omega
    have l7 := ln_7 j hj10
    have e : mtL x (kKeyB.getD j []) (List.length (kKeyB.getD j [])) 0 = nI (mtW (fun i => sgT T L (q + i)) j) := mtL_is h hL hq hj10 (k := lnW j) (by omega)
    have m1 := mt_le (s := fun i => sgT T L (q + i)) (w := j)
    rw [rkL, e, show List.length (kKeyB.getD j []) = lnW j from rfl]
    by_cases c : mtW (fun i => sgT T L (q + i)) j = lnW j
    · rw [if_pos (by rw [c]), c]
      refine ⟨j, hj10, rfl, c, ?_⟩
      show kkS x 5 (x.2.1 5 + nI (lnW j)) = _
      rw [h.2.1, nI_add]
    · rw [if_neg (fun z => c ((nI_eq (by omega) (by omega)).1 z))]
      have m2 : G ≤ 6 := by
        rcases b with rfl | ⟨w, hw, rfl⟩
        · omega
        · have := mt_le (s := fun i => sgT T L (q + i)) (w := w)
          have := ln_7 w hw
          omega
      by_cases d : G < mtW (fun i => sgT T L (q + i)) j
      · rw [if_pos (nI_lt d (by omega))]
        refine ih (by omega) (fun w hw => ?_) (Or.inr ⟨j, hj10, rfl⟩)
        by_cases e2 : w = j
        · subst e2; exact ⟨by omega, Nat.le_refl _⟩
        · have := a w (by omega)
          exact ⟨this.1, by omega⟩
      · rw [if_neg (nI_nlt (by omega) (by omega))]
        refine ih (by omega) (fun w hw => ?_) b
        by_cases e2 : w = j
        · subst e2; exact ⟨by omega, by omega⟩
        · exact a w (by omega)
theorem rk_s (h : tX T L q x) (hL : L ≤ 60) (hq : q ≤ L) : ∃ r n, kwP (fun i => sgT T L (q + i)) r n ∧ f_X2_readKeyword x = r ∧ g_X2_readKeyword x = kkS x 5 (nI (q + n)) := by
  have z := rkL_s h hL hq (k := 10) (j := 0) (G := 0) (by omega) (fun w hw => absurd hw (Nat.not_lt_zero w)) (Or.inl rfl)
  unfold f_X2_readKeyword g_X2_readKeyword
  revert z
  show Sum.elim _ _ (rkL 10 x 0 0) → _
  generalize rkL 10 x 0 0 = zz
  intro z
  cases zz with
  | inl zz =>
    obtain ⟨w, hw, e1, e2, e3⟩ := z
    exact ⟨some w, lnW w, Or.inl ⟨w, hw, rfl, e2, rfl⟩, e1, e3⟩
  | inr zz =>
    obtain ⟨e1, n, e2, e3⟩ := z
    refine ⟨none, n, e3, rfl, ?_⟩
    show kkS zz.1 5 (zz.1.2.1 5 + zz.2) = _
    rw [e1, e2, h.2.1, nI_add]
end WDX
/-! the reference -/
section WDY
variable {T : Nat → Int32} {L q : Nat} {y : kY}
theorem sg_y (h : tY T L q y) (hL : L ≤ 60) (hq : q ≤ L) : f_X12_sign y = sgT T L q := by
  obtain ⟨h1, h2, h3⟩ := h
  unfold f_X12_sign
  rw [h1, h2, nI_clamp (show q < 2 ^ 31 by omega)]
  by_cases c : q < L
  · rw [if_neg (nI_ge c (by omega)), h3 q c, sgT_1 c]
  · rw [if_pos (nI_le (by omega) (by omega)), sgT_0 c]
theorem wA_ln : ∀ w, w < 10 → wA.getD (w + 1) 0 = wA.getD w 0 + lnW w := by decide
theorem wW_ch : ∀ w, w < 10 → ∀ i, i < 6 → i < lnW w → wW.getD (wA.getD w 0 + i) 0 = chW w i := by decide +kernel
theorem wA_52 : ∀ w, w < 11 → wA.getD w 0 ≤ 52 := by decide
theorem and_0 {a : Int32} : a &&& 0 = 0 := by
  apply Int32.toBitVec_inj.1
  rw [Int32.toBitVec_and]
  exact BitVec.and_zero
theorem b01_1 {a : Int32} (h : kB01 a) : a &&& 1 = a := by rcases h with rfl | rfl <;> rfl
theorem b01_u {a : Int32} (h : kB01 a) (n : ¬ a = 1) : a = 0 := by rcases h with h | h; exact h; exact absurd h n
/-- one more word of the ten -/
theorem waL_1 (hw : kWo y) (s : Int32) (es : f_X12_sign y = s) {n j : Nat} (hn : n ≤ 6) (hj : j < 10) (hb : kB01 (y.2 8 j)) {k : Nat} {m : Int32} : ∃ b, kB01 b ∧ (b = 1 ↔ y.2 8 j = 1 ∧ n < lnW j ∧ chW j n = s) ∧ waL n (k + 1) y j m = waL n k (yR y 8 (upd (y.2 8) j b)) (j + 1) (m ||| b) := by
  have l7 := ln_7 j hj
  have lt := wo_lt (n := n) hw hj (by omega)
  rw [wA_ln j hj] at lt
  have lt2 : (¬ y.2 10 (Int32.toNatClampNeg (nI j + 1)) ≤ y.2 10 (Int32.toNatClampNeg (nI j)) + nI n) ↔ n < lnW j := ⟨fun z => by have := lt.1 z; omega, fun z => lt.2 (by omega)⟩
  have cj : Int32.toNatClampNeg (nI j) = j := nI_clamp (by omega)
  have nz : ¬ (0 : Int32) = 1 := by decide
  rw [waL]
  by_cases c : n < lnW j
  · have a9 : y.2 9 (Int32.toNatClampNeg (y.2 10 (Int32.toNatClampNeg (nI j)) + nI n)) = chW j n := by
      have a52 := wA_52 (j + 1) (by omega)
      rw [wA_ln j hj] at a52
      rw [cj, hw.1 j (by omega), nI_add, nI_clamp (by omega), hw.2 _ (by omega)]
      exact wW_ch j hj n (by omega) c
    rw [if_neg (lt2.2 c), a9, es, cj]
    by_cases d : chW j n = s
    · rw [if_pos d, pk_us, b01_1 hb]
      refine ⟨y.2 8 j, hb, ⟨fun z => ⟨z, c, d⟩, fun z => z.1⟩, ?_⟩
      by_cases e : y.2 8 j = 1
      · rw [if_pos e, e]
      · rw [if_neg e, b01_u hb e]
    · rw [if_neg d, pk_us, and_0, if_neg nz]
      exact ⟨0, Or.inl rfl, ⟨fun z => absurd z nz, fun z => absurd z.2.2 d⟩, rfl⟩
  · rw [if_pos (Classical.byContradiction fun z => c (lt2.1 z)), cj, pk_us, and_0, if_neg nz]
    exact ⟨0, Or.inl rfl, ⟨fun z => absurd z nz, fun z => absurd z.2.1 c⟩, rfl⟩
theorem or_1 {a b : Int32} (ha : kB01 a) (hb : kB01 b) : (a ||| b = 0 ↔ a = 0 ∧ b = 0) ∧ kB01 (a ||| b) := by
  refine ⟨?_, b01_or ha hb⟩
  rcases ha with rfl | rfl <;> rcases hb with rfl | rfl <;> decide
theorem waL_s (s : Int32) {n : Nat} (hn : n ≤ 6) {k : Nat} : ∀ {y : kY} {j : Nat} {m : Int32}, j + k = 10 → kWo y → f_X12_sign y = s → (∀ w, w < 10 → kB01 (y.2 8 w)) → kB01 m →
    (waL n k y j m).1.1 = y.1 ∧ (∀ r, r ≠ 8 → (waL n k y j m).1.2 r = y.2 r) ∧ (∀ w, w < j → (waL n k y j m).1.2 8 w = y.2 8 w) ∧ (∀ w, j ≤ w → w < 10 → kB01 ((waL n k y j m).1.2 8 w) ∧ ((waL n k y j m).1.2 8 w = 1 ↔ y.2 8 w = 1 ∧ n < lnW w ∧ chW w n = s)) ∧ ((waL n k y j m).2 = 0 ↔ m = 0 ∧ ∀ w, j ≤ w → w < 10 → ¬ (waL n k y j m).1.2 8 w = 1) := by
  induction k with
  | zero =>
    intro y j m hj _ _ _ _
    exact ⟨rfl, fun _ _ => rfl, fun _ _ => rfl, fun w a b => by omega, ⟨fun z => ⟨z, fun w a b => by omega⟩, fun z => z.1⟩⟩
  | succ k ih =>
    intro y j m hj hw es hb hm
    have hj10 : j < 10 := by omega
    obtain ⟨b, b1, b2, b3⟩ := waL_1 hw s es hn hj10 (hb j hj10) (k := k) (m := m)
    rw [b3]
    have r8 : ∀ f : Nat → Int32, (yR y 8 f).2 8 = f := fun _ => rfl
    have rn : ∀ (f : Nat → Int32) (r : Nat), r ≠ 8 → (yR y 8 f).2 r = y.2 r := fun f r h => if_neg h
    have e1 : (yR y 8 (upd (y.2 8) j b)).1 = y.1 := rfl
    have es2 : f_X12_sign (yR y 8 (upd (y.2 8) j b)) = s := by
      rw [← es]
      rfl
    obtain ⟨a1, a2, a3, a4, a5⟩ := ih (y := yR y 8 (upd (y.2 8) j b)) (j := j + 1) (m := m ||| b) (by omega) (wo_r hw (rn _)) es2 (fun w hw10 => by
      rw [r8]
      by_cases e : w = j
      · rw [e, pk_us]; exact b1
      · rw [pk_un e]; exact hb w hw10) (or_1 hm b1).2
    refine ⟨a1.trans e1, fun r hr => (a2 r hr).trans (rn _ r hr), fun w hw2 => ?_, fun w h1 h2 => ?_, ?_⟩
    · rw [a3 w (by omega), r8, pk_un (by omega)]
    · by_cases e : w = j
      · rw [e, a3 j (by omega), r8, pk_us]
        exact ⟨b1, b2⟩
      · have z := a4 w (by omega) h2
        rw [r8, pk_un e] at z
        exact z
    · rw [a5, (or_1 hm b1).1]
      have ej : (waL n k (yR y 8 (upd (y.2 8) j b)) (j + 1) (m ||| b)).1.2 8 j = b := by rw [a3 j (by omega), r8, pk_us]
      constructor
      · rintro ⟨⟨z1, z2⟩, z3⟩
        refine ⟨z1, fun w h1 h2 => ?_⟩
        by_cases e : w = j
        · rw [e, ej, z2]; decide
        · exact z3 w (by omega) h2
      · rintro ⟨z1, z3⟩
        have z4 := z3 j (Nat.le_refl j) hj10
        rw [ej] at z4
        exact ⟨⟨z1, b01_u b1 z4⟩, fun w h1 h2 => z3 w (by omega) h2⟩
/-- the last word that is whole -/
theorem wbL_s (hw : kWo y) {n : Nat} (hn : n ≤ 7) {k : Nat} : ∀ {j : Nat} {i : Int32}, j + k = 10 → ((∀ w, j ≤ w → w < 10 → y.2 8 w = 1 → lnW w ≠ n) ∧ wbL y n k j i = i) ∨ ∃ w, j ≤ w ∧ w < 10 ∧ y.2 8 w = 1 ∧ lnW w = n ∧ wbL y n k j i = nI w := by
  induction k with
  | zero => intro j i hj; exact Or.inl ⟨fun w a b => by omega, rfl⟩
  | succ k ih =>
    intro j i hj
    have eq := wo_eq (j := j) (n := n) hw (by omega) (by omega)
    rw [wA_ln j (by omega)] at eq
    have go : ∀ i2, (¬ (y.2 8 j = 1 ∧ lnW j = n) ∧ i2 = i ∨ (y.2 8 j = 1 ∧ lnW j = n) ∧ i2 = nI j) → (((∀ w, j ≤ w → w < 10 → y.2 8 w = 1 → lnW w ≠ n) ∧ wbL y n k (j + 1) i2 = i) ∨ ∃ w, j ≤ w ∧ w < 10 ∧ y.2 8 w = 1 ∧ lnW w = n ∧ wbL y n k (j + 1) i2 = nI w) := by
      intro i2 h2
      rcases ih (j := j + 1) (i := i2) (by omega) with ⟨a, b⟩ | ⟨w, a1, a2, a3⟩
      · rcases h2 with ⟨c, rfl⟩ | ⟨c, rfl⟩
        · refine Or.inl ⟨fun w h1 h2 h3 h4 => ?_, b⟩
          by_cases e : w = j
          · rw [e] at h3 h4; exact c ⟨h3, h4⟩
          · exact a w (by omega) h2 h3 h4
        · exact Or.inr ⟨j, Nat.le_refl j, by omega, c.1, c.2, b⟩
      · exact Or.inr ⟨w, by omega, a2, a3⟩
    rw [wbL]
    by_cases c : y.2 8 j = 1
    · rw [if_pos (show y.2 8 (Int32.toNatClampNeg (nI j)) = 1 by rw [nI_clamp (by omega)]; exact c)]
      by_cases d : lnW j = n
      · rw [if_pos (eq.2 (by omega))]
        exact go _ (Or.inr ⟨⟨c, d⟩, rfl⟩)
      · rw [if_neg (fun z => d (by have := eq.1 z; omega))]
        exact go _ (Or.inl ⟨fun z => d z.2, rfl⟩)
    · rw [if_neg (show ¬ y.2 8 (Int32.toNatClampNeg (nI j)) = 1 by rw [nI_clamp (by omega)]; exact c)]
      exact go _ (Or.inl ⟨fun z => c z.1, rfl⟩)
theorem wmL_i {k : Nat} {j w : Nat} (hw : w < 10) : wmL k y j (nI w) = (y, nI w) := by
  cases k with
  | zero => rw [wmL, ite_self]
  | succ k => rw [wmL, if_pos (nI_pos' (by omega))]
theorem wmL_x {k : Nat} {j : Nat} (h : ¬ y.1 13 = 0) : wmL k y j (-1) = (y, -1) := by
  cases k with
  | zero => rw [wmL, ite_self]
  | succ k => rw [wmL, if_neg (by decide), if_neg h]
theorem wmL_s (hL : L ≤ 60) (hq : q ≤ L) {k : Nat} : ∀ {y : kY} {n : Nat}, n + k = 7 → kWo y → tY T L (q + n) y → q + n ≤ L → y.1 13 = 0 → (∀ w, w < 10 → kB01 (y.2 8 w) ∧ (y.2 8 w = 1 ↔ n ≤ mtW (fun i => sgT T L (q + i)) w)) → (∃ w, w < 10 ∧ n ≤ mtW (fun i => sgT T L (q + i)) w) → (∀ w, w < 10 → lnW w ≤ n → mtW (fun i => sgT T L (q + i)) w ≠ lnW w) →
    ∃ r m, kwP (fun i => sgT T L (q + i)) r m ∧ (wmL k y n (-1)).1.1 10 = nI (q + m) ∧ (∀ k2, k2 ≠ 10 → k2 ≠ 13 → (wmL k y n (-1)).1.1 k2 = y.1 k2) ∧ (∀ r, r ≠ 8 → (wmL k y n (-1)).1.2 r = y.2 r) ∧ ((r = none ∧ (wmL k y n (-1)).1.1 13 = 1) ∨ ∃ w, r = some w ∧ (wmL k y n (-1)).1.1 13 = 0 ∧ (wmL k y n (-1)).2 = nI w) := by
  induction k with
  | zero =>
    intro y n hn _ _ _ _ _ ex _
    obtain ⟨w, hw, h⟩ := ex
    have := mt_le (s := fun i => sgT T L (q + i)) (w := w)
    have := ln_7 w hw
    omega
  | succ k ih =>
    intro y n hn hW hY hin h13 h8 ex un
    have n6 : n ≤ 6 := by omega
    have sg := sg_y hY hL hin
    obtain ⟨a1, a2, -, a4, a5⟩ := waL_s (sgT T L (q + n)) n6 (k := 10) (y := y) (j := 0) (m := 0) (by omega) hW sg (fun w hw => (h8 w hw).1) (Or.inl rfl)
    have a6 : ∀ w, w < 10 → ((waL n 10 y 0 0).1.2 8 w = 1 ↔ n + 1 ≤ mtW (fun i => sgT T L (q + i)) w) := by
      intro w hw
      rw [(a4 w (Nat.zero_le w) hw).2, (h8 w hw).2, mt_up]
    rw [wmL, if_neg (by decide), if_pos h13]
    by_cases c : (waL n 10 y 0 0).2 = 0
    · rw [if_pos c]
      have no := (a5.1 c).2
      have no2 : ∀ w, w < 10 → ¬ n + 1 ≤ mtW (fun i => sgT T L (q + i)) w := fun w hw z => no w (Nat.zero_le w) hw ((a6 w hw).2 z)
      have hW2 : kWo (yS (yS (waL n 10 y 0 0).1 13 1) 10 ((waL n 10 y 0 0).1.1 10 + 0)) := wo_r hW a2
      have w13 : ¬ (yS (yS (waL n 10 y 0 0).1 13 1) 10 ((waL n 10 y 0 0).1.1 10 + 0)).1 13 = 0 := by
        rw [ys_1, pk_un (by decide), ys_1, pk_us]; decide
      rcases wbL_s (y := yS (yS (waL n 10 y 0 0).1 13 1) 10 ((waL n 10 y 0 0).1.1 10 + 0)) hW2 (n := n + 1) (by omega) (k := 10) (j := 0) (i := -1) (by omega) with ⟨-, e⟩ | ⟨w, -, hw, e, -⟩
      · rw [e, wmL_x w13]
        refine ⟨none, n, Or.inr ⟨rfl, fun w hw => ?_, ?_⟩, ?_, fun k2 h1 h2 => ?_, fun r hr => ?_, Or.inl ⟨rfl, ?_⟩⟩
        · have h1 := no2 w hw
          have h2 := un w hw
          have h3 := mt_le (s := fun i => sgT T L (q + i)) (w := w)
          refine ⟨?_, by omega⟩
          by_cases z : mtW (fun i => sgT T L (q + i)) w = lnW w
          · exact absurd z (h2 (by omega))
          · omega
        · obtain ⟨w, hw, h⟩ := ex
          have := no2 w hw
          exact ⟨w, hw, by omega⟩
        · rw [ys_1, pk_us, a1, hY.2.1]
          exact nI_add (q + n) 0
        · rw [ys_1, pk_un h1, ys_1, pk_un h2, a1]
        · exact a2 r hr
        · rw [ys_1, pk_un (by decide), ys_1, pk_us]
      · exact absurd e (no w (Nat.zero_le w) hw)
    · rw [if_neg c]
      have ex2 : ∃ w, w < 10 ∧ n + 1 ≤ mtW (fun i => sgT T L (q + i)) w := by
        refine Classical.byContradiction fun z => c (a5.2 ⟨rfl, fun w _ hw h => z ⟨w, hw, (a6 w hw).1 h⟩⟩)
      have hin2 : q + (n + 1) ≤ L := by
        obtain ⟨w, hw, h⟩ := ex2
        rcases mt_in (T := T) (L := L) (q := q) hw with z | z
        · omega
        · omega
      have hW2 : kWo (yS (yS (waL n 10 y 0 0).1 13 0) 10 ((waL n 10 y 0 0).1.1 10 + 1)) := wo_r hW a2
      have e10 : (yS (yS (waL n 10 y 0 0).1 13 0) 10 ((waL n 10 y 0 0).1.1 10 + 1)).1 10 = nI (q + (n + 1)) := by
        rw [ys_1, pk_us, a1, hY.2.1]
        exact nI_1 (q + n)
      have e13 : (yS (yS (waL n 10 y 0 0).1 13 0) 10 ((waL n 10 y 0 0).1.1 10 + 1)).1 13 = 0 := by
        rw [ys_1, pk_un (by decide), ys_1, pk_us]
      have ek : ∀ k2, k2 ≠ 10 → k2 ≠ 13 → (yS (yS (waL n 10 y 0 0).1 13 0) 10 ((waL n 10 y 0 0).1.1 10 + 1)).1 k2 = y.1 k2 := by
        intro k2 h1 h2
        rw [ys_1, pk_un h1, ys_1, pk_un h2, a1]
      have e2 : (yS (yS (waL n 10 y 0 0).1 13 0) 10 ((waL n 10 y 0 0).1.1 10 + 1)).2 = (waL n 10 y 0 0).1.2 := rfl
      rcases wbL_s (y := yS (yS (waL n 10 y 0 0).1 13 0) 10 ((waL n 10 y 0 0).1.1 10 + 1)) hW2 (n := n + 1) (by omega) (k := 10) (j := 0) (i := -1) (by omega) with ⟨no, e⟩ | ⟨w, -, hw, e8, el, e⟩
      · rw [e]
        obtain ⟨r, m, r1, r2, r3, r4, r5⟩ := ih (y := yS (yS (waL n 10 y 0 0).1 13 0) 10 ((waL n 10 y 0 0).1.1 10 + 1)) (n := n + 1) (by omega) hW2 ⟨(ek 11 (by decide) (by decide)).trans hY.1, e10, fun j hj => by rw [e2, a2 6 (by decide)]; exact hY.2.2 j hj⟩ hin2 e13 (fun w hw => ⟨(a4 w (Nat.zero_le w) hw).1, a6 w hw⟩) ex2 (fun w hw hl z => by
          by_cases z2 : lnW w ≤ n
          · exact un w hw z2 z
          · exact no w (Nat.zero_le w) hw ((a6 w hw).2 (by omega)) (by omega))
        exact ⟨r, m, r1, r2, fun k2 h1 h2 => (r3 k2 h1 h2).trans (ek k2 h1 h2), fun r hr => (r4 r hr).trans (a2 r hr), r5⟩
      · rw [e, wmL_i hw]
        have ml := (a6 w hw).1 e8
        have mle := mt_le (s := fun i => sgT T L (q + i)) (w := w)
        exact ⟨some w, n + 1, Or.inl ⟨w, hw, rfl, by omega, el.symm⟩, e10, ek, a2, Or.inr ⟨w, rfl, e13, rfl⟩⟩
theorem wiL_s {k : Nat} : ∀ {y : kY} {j : Nat}, j + k = 10 → ∀ w, w < 10 → (wiL k y j).2 8 w = if j ≤ w then 1 else y.2 8 w := by
  induction k with
  | zero => intro y j hj w hw; rw [if_neg (by omega)]; rfl
  | succ k ih =>
    intro y j hj w hw
    rw [wiL, ih (by omega) w hw, nI_clamp (by omega)]
    show (if j + 1 ≤ w then 1 else upd (y.2 8) j 1 w) = _
    by_cases e : w = j
    · subst e; rw [if_neg (by omega), pk_us, if_pos (Nat.le_refl _)]
    · rw [pk_un e]
      by_cases c : j ≤ w
      · rw [if_pos (by omega), if_pos c]
      · rw [if_neg (by omega), if_neg c]
theorem wd_s (hW : kWo y) (hY : tY T L q y) (hL : L ≤ 60) (hq : q ≤ L) (h13 : y.1 13 = 0) : ∃ r m, kwP (fun i => sgT T L (q + i)) r m ∧ (g_X12_word y).1 10 = nI (q + m) ∧ (∀ k2, k2 ≠ 10 → k2 ≠ 13 → (g_X12_word y).1 k2 = y.1 k2) ∧ (∀ r, r ≠ 8 → (g_X12_word y).2 r = y.2 r) ∧ ((r = none ∧ (g_X12_word y).1 13 = 1) ∨ ∃ w, r = some w ∧ (g_X12_word y).1 13 = 0 ∧ f_X12_word y = nI w) := by
  have wx := wiL_x (k := 10) (x := y) (j := 0)
  unfold g_X12_word f_X12_word
  obtain ⟨r, m, r1, r2, r3, r4, r5⟩ := wmL_s (T := T) (L := L) (q := q) hL hq (k := 7) (y := wiL 10 y 0) (n := 0) (by omega) (wo_r hW wx.2) ⟨by rw [wx.1]; exact hY.1, by rw [wx.1]; exact hY.2.1, fun j hj => by rw [wx.2 6 (by decide)]; exact hY.2.2 j hj⟩ (by omega) (by rw [wx.1]; exact h13) (fun w hw => by
    rw [wiL_s (by omega) w hw, if_pos (Nat.zero_le w)]
    exact ⟨Or.inr rfl, ⟨fun _ => Nat.zero_le _, fun _ => rfl⟩⟩) ⟨0, by omega, Nat.zero_le _⟩ (fun w hw hl => by have := ln_7 w hw; omega)
  exact ⟨r, m, r1, r2, fun k2 h1 h2 => by rw [r3 k2 h1 h2, wx.1], fun r hr => (r4 r hr).trans (wx.2 r hr), r5⟩
end WDY
